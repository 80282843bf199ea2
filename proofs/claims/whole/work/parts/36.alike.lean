section AlikeA
theorem wl_same1 {C : cS} {K : Int32 → cS → Prop} {b0 b1 n v : Nat} (a0 : C.aw b0) (a1 : C.aw b1) (l0 : C.ln b0 = n) (l1 : C.ln b1 = n) (hn : n ≤ 24) (hv : v ≤ n) (h1 : ∀ c, c < v → C.ar b0 c = C.ar b1 c) (h2 : v < n → ¬ C.ar b0 v = C.ar b1 v) (k : K (if v = n then 1 else 0) C) : ∀ u c, c + u = v → wl_X1_sameFrames_11 K (u + 1) b0 b1 (nI c) C := by
  intro u
  induction u with
  | zero =>
    intro c hc
    have hc : c = v := by omega
    subst hc
    rw [wl_X1_sameFrames_11, l0, l1]
    by_cases e : c = n
    · rw [if_pos e] at k
      exact ⟨a0, br_t (nI_le (by omega) (by omega)) k⟩
    · rw [if_neg e] at k
      refine ⟨a0, br_f (nI_ge (a := c) (b := n) (by omega) (by omega)) ⟨a0, vp_in_nI (by omega) (by omega), a1, vp_in_nI (by omega) (by omega), ?_⟩⟩
      rw [ck (by omega)]
      exact br_f (h2 (by omega)) k
  | succ u ih =>
    intro c hc
    rw [wl_X1_sameFrames_11, l0, l1, ck (by omega), nI_1]
    exact ⟨a0, br_f (nI_ge (a := c) (b := n) (by omega) (by omega)) ⟨a0, vp_in_nI (by omega) (by omega), a1, vp_in_nI (by omega) (by omega), br_t (h1 c (by omega)) (ih (c + 1) (by omega))⟩⟩
theorem bnar (b : Bool) : narrow .boolean (.int (if b = true then 1 else 0)) = .int (if b = true then 1 else 0) := by cases b <;> decide
theorem wl_no2 {S : mS} {K : Int32 → mS → Prop} {r0 r1 n c : Nat} {v1 v2 : Int32} (hr : r0 < 512) (l0 : S.ia 2 r0 = nI n) (hn : n ≤ 24) (k : K 0 S) : wl_X2_alike_136 K 1 v1 v2 (nI r0) (nI r1) 0 (nI c) S := by
  rw [wl_X2_alike_136, ck (by omega), l0]
  exact ⟨vp_in_nI (by omega) (by decide), fun _ => ⟨k, by decide⟩, fun _ => br_t rfl ⟨k, by decide⟩⟩
theorem wl_same2 {S : mS} {K : Int32 → mS → Prop} {r0 r1 n v : Nat} {v1 v2 : Int32} (hr : r0 < 512) (hr1 : r1 < 512) (l0 : S.ia 2 r0 = nI n) (hn : n ≤ 24) (hv : v ≤ n) (h1 : ∀ c, c < v → S.la 3 (24 * r0 + c) = S.la 3 (24 * r1 + c)) (h2 : v < n → ¬ S.la 3 (24 * r0 + v) = S.la 3 (24 * r1 + v)) (k : K (if v = n then 1 else 0) S) : ∀ u c, c + u = v → wl_X2_alike_136 K (u + 2) v1 v2 (nI r0) (nI r1) 1 (nI c) S := by
  intro u
  induction u with
  | zero =>
    intro c hc
    have hc : c = v := by omega
    subst hc
    rw [wl_X2_alike_136, ck (by omega), l0, e24, e24, ck (by omega), ck (by omega), nI_1]
    refine ⟨vp_in_nI (by omega) (by decide), ?_⟩
    by_cases e : c = n
    · rw [if_pos e] at k
      exact br_t (nI_le (by omega) (by omega)) ⟨k, by decide⟩
    · rw [if_neg e] at k
      exact br_f (nI_ge (a := c) (b := n) (by omega) (by omega)) (br_f (by decide) ⟨vp_in_nI (by omega) (by decide), vp_in_nI (by omega) (by decide), br_n (h2 (by omega)) (wl_no2 hr l0 hn k)⟩)
  | succ u ih =>
    intro c hc
    rw [wl_X2_alike_136, ck (by omega), l0, e24, e24, ck (by omega), ck (by omega), nI_1]
    exact ⟨vp_in_nI (by omega) (by decide), br_f (nI_ge (a := c) (b := n) (by omega) (by omega)) (br_f (by decide) ⟨vp_in_nI (by omega) (by decide), vp_in_nI (by omega) (by decide), br_p (h1 c (by omega)) (ih (c + 1) (by omega))⟩)⟩
theorem first_diff (n : Nat) (f g : Nat → Int64) : ∃ v, v ≤ n ∧ (∀ c, c < v → f c = g c) ∧ (v < n → ¬ f v = g v) := by
  induction n with
  | zero => exact ⟨0, Nat.le_refl _, fun c h => absurd h (by omega), fun h => absurd h (by omega)⟩
  | succ m ih =>
    obtain ⟨v, h1, h2, h3⟩ := ih
    by_cases e : v < m
    · exact ⟨v, by omega, h2, fun _ => h3 e⟩
    · have e : v = m := by omega
      subst e
      by_cases z : f v = g v
      · refine ⟨v + 1, by omega, fun c hc => ?_, fun h => absurd h (by omega)⟩
        by_cases ec : c = v
        · rw [ec]; exact z
        · exact h2 c (by omega)
      · exact ⟨v, by omega, h2, fun _ => z⟩
theorem fR_eq {s Sh : Nat} {sn sk : Nat → Int32} {x y x' y' : Int64} (hk : ∀ k, k < Sh → ∃ d, d < 3 ∧ sk k = nI d) (hSh : Sh ≤ 512) (h : fR s sn sk Sh x y) (h' : fR s sn sk Sh x' y') : x = x' ↔ y = y' := by
  by_cases c : s < 5
  · rw [h.1 c, h'.1 c]
  · have m1 : ∀ k, k < Sh → ¬ lN k = (-1 : Int64) := by
      intro k hk' e
      have := congrArg Int64.toInt e
      rw [pk_lT (by omega)] at this
      rw [show (-1 : Int64).toInt = -1 by decide] at this
      omega
    rcases h.2 (by omega) with ⟨rfl, rfl⟩ | ⟨k, hk1, rfl, rfl⟩
    · rcases h'.2 (by omega) with ⟨rfl, rfl⟩ | ⟨k', hk1', rfl, rfl⟩
      · exact ⟨fun _ => rfl, fun _ => rfl⟩
      · obtain ⟨d', hd', ed'⟩ := hk k' hk1'
        rw [ed']
        exact ⟨fun q => absurd q.symm (e_ne (by omega) hd' _), fun q => absurd q.symm (m1 k' hk1')⟩
    · obtain ⟨d, hd, ed⟩ := hk k hk1
      rcases h'.2 (by omega) with ⟨rfl, rfl⟩ | ⟨k', hk1', rfl, rfl⟩
      · rw [ed]
        exact ⟨fun q => absurd q (e_ne (by omega) hd _), fun q => absurd q (m1 k hk1)⟩
      · obtain ⟨d', hd', ed'⟩ := hk k' hk1'
        constructor
        · intro q
          rw [ed, ed'] at q
          rw [e_inj (by omega) hd (by omega) hd' q]
        · intro q
          have := (lN_eq (by omega) (by omega)).mp q
          subst this
          rfl
theorem sim_alike {i : Nat} {C : cS} {M : mS} (h : Rel i C M) (hi5 : i < 512) (p0 p1 : Int32) : wp_X1_alike p0 p1 C (fun r1 C' => wp_X2_alike p0 p1 M (fun r2 M' => r1 = r2 ∧ Rel (i + 1) C' M')) := by
  have h23 := rel_23 h 0
  obtain ⟨⟨id, R, T, Sh, cn, bc, ⟨i1, i2, i3⟩, hN, hL, hP, hS, hB⟩, hr⟩ := h
  unfold wp_X1_alike
  rcases spc p0 with hb | ⟨j0, hj0, rfl⟩
  · exact w1sp0 hb (br_t rfl (w2sp0 hb (br_t rfl ⟨rfl, h23⟩)))
  refine w1sp1 hj0 (br_f (by decide) ?_)
  rcases spc p1 with hb | ⟨j1, hj1, rfl⟩
  · exact w1sp0 hb (br_p rfl (w2sp1 hj0 (br_f (by decide) (w2sp0 hb (br_t rfl ⟨rfl, h23⟩)))))
  have v0 := vp_in_nI hj0 (show 8 < 2 ^ 31 by decide)
  have v1 := vp_in_nI hj1 (show 8 < 2 ^ 31 by decide)
  -- the reference, by what lies on the two spindles
  have mod : ∀ {K : Int32 → mS → Prop}, ((M.ia 4 j0 = M.ia 4 j1 → ((¬ M.ia 4 j0 = 0 → ((¬ M.ia 4 j0 = 2 → (vp_in (M.ia 5 j0) 513 ∧ vp_in (M.ia 5 j1) 513 ∧ ((¬ M.ia 1 (M.ia 5 j0).toNatClampNeg = M.ia 1 (M.ia 5 j1).toNatClampNeg → ∃ n136, wl_X2_alike_136 K n136 (nI j0) (nI j1) (M.ia 5 j0) (M.ia 5 j1) 0 0 (M.si 23 0)) ∧ (M.ia 1 (M.ia 5 j0).toNatClampNeg = M.ia 1 (M.ia 5 j1).toNatClampNeg → (vp_in (M.ia 5 j0) 513 ∧ vp_in (M.ia 5 j1) 513 ∧ ((¬ M.ia 2 (M.ia 5 j0).toNatClampNeg = M.ia 2 (M.ia 5 j1).toNatClampNeg → ∃ n136, wl_X2_alike_136 K n136 (nI j0) (nI j1) (M.ia 5 j0) (M.ia 5 j1) 0 0 (M.si 23 0)) ∧ (M.ia 2 (M.ia 5 j0).toNatClampNeg = M.ia 2 (M.ia 5 j1).toNatClampNeg → ∃ n136, wl_X2_alike_136 K n136 (nI j0) (nI j1) (M.ia 5 j0) (M.ia 5 j1) 1 0 (M.si 23 0))))))))
      ∧ (M.ia 4 j0 = 2 → (vp_in (M.ia 5 j0) 513 ∧ vp_in (M.ia 5 j1) 513 ∧ ((¬ M.ia 6 (M.ia 5 j0).toNatClampNeg = M.ia 6 (M.ia 5 j1).toNatClampNeg → K 0 (M.si 23 0)) ∧ (M.ia 6 (M.ia 5 j0).toNatClampNeg = M.ia 6 (M.ia 5 j1).toNatClampNeg → K 1 (M.si 23 0))))))) ∧ (M.ia 4 j0 = 0 → K 1 (M.si 23 0)))) ∧ (¬ M.ia 4 j0 = M.ia 4 j1 → K 0 (M.si 23 0))) → wp_X2_alike (nI j0) (nI j1) M K := by
    intro K hk
    unfold wp_X2_alike
    refine w2sp1 hj0 (br_f (by decide) (w2sp1 hj1 (br_f (by decide) ⟨v0, v1, ?_⟩)))
    rw [ck (by omega), ck (by omega)]
    refine ⟨fun c => ⟨v0, ⟨fun c1 => ⟨v0, v1, v0, ⟨fun c2 => ((hk.1 c).1 c1).1 c2, fun c2 => ((hk.1 c).1 c1).2 c2⟩⟩, fun c1 => (hk.1 c).2 c1⟩⟩, fun c => hk.2 c⟩
  refine w1sp1 hj1 (br_n (by decide) ⟨v0, ?_⟩)
  rw [ck (by omega), ck (by omega)]
  rcases hS j0 hj0 with ⟨s0, t0⟩ | ⟨a0, s0, ld0, w0, t80, t70⟩
  · rcases hS j1 hj1 with ⟨s1, t1⟩ | ⟨a1, s1, ld1, w1, t81, t71⟩
    · exact ⟨fun _ => ⟨v1, fun _ => br_p rfl (mod (br_t (t0.trans t1.symm) (br_p t0 ⟨rfl, h23⟩))), fun y e => absurd (e.symm.trans s1) (by simp)⟩, fun y e => absurd (e.symm.trans s0) (by simp)⟩
    · have ne : ¬ M.ia 4 j0 = M.ia 4 j1 := by
        rw [t0]
        by_cases z : C.so a1 = 8
        · rw [t81 z]; decide
        · rw [t71 z]; decide
      exact ⟨fun _ => ⟨v1, fun e => absurd (e.symm.trans s1) (by simp), fun y e => br_n (by simp) (mod (br_f ne ⟨rfl, h23⟩))⟩, fun y e => absurd (e.symm.trans s0) (by simp)⟩
  · have n0 : ¬ M.ia 4 j0 = 0 := by
      by_cases z : C.so a0 = 8
      · rw [t80 z]; decide
      · rw [t70 z]; decide
    refine ⟨fun e => absurd (e.symm.trans s0) (by simp), fun y e => ⟨v1, ?_⟩⟩
    have ey : y = a0 := Option.some.inj (e.symm.trans s0)
    subst ey
    rcases hS j1 hj1 with ⟨s1, t1⟩ | ⟨a1, s1, ld1, w1, t81, t71⟩
    · have ne : ¬ M.ia 4 j0 = M.ia 4 j1 := by rw [t1]; exact n0
      exact ⟨fun _ => br_n (by simp) (mod (br_f ne ⟨rfl, h23⟩)), fun y2 e2 => absurd (e2.symm.trans s1) (by simp)⟩
    refine ⟨fun e2 => absurd (e2.symm.trans s1) (by simp), fun y2 e2 => ?_⟩
    have ey2 : y2 = a1 := Option.some.inj (e2.symm.trans s1)
    subst ey2
    obtain ⟨b0, m0, q0, f1, f2, f3, f4, f5, f6, f7, f8⟩ := hP.1 y ld0
    obtain ⟨b1, m1, q1, g1, g2, g3, g4, g5, g6, g7, g8⟩ := hP.1 y2 ld1
    have e80 : C.so y = 8 ↔ q0 = 8 := by rw [f6]; exact nI_eq (b := 8) (by omega) (by decide)
    have e81 : C.so y2 = 8 ↔ q1 = 8 := by rw [g6]; exact nI_eq (b := 8) (by omega) (by decide)
    refine ⟨ld0, ld1, fun c => ?_, fun c => ⟨ld0, ld1, ?_⟩⟩
    · -- other sorts
      have cq : ¬ q0 = q1 := fun z => c (by rw [f6, g6, z])
      refine mod ⟨fun z => ⟨fun _ => ⟨fun z2 => ?_, fun z2 => ?_⟩, fun z0 => absurd z0 n0⟩, fun _ => ⟨rfl, h23⟩⟩
      · have a8 : ¬ q0 = 8 := fun w => z2 (t80 (e80.mpr w))
        have b8 : ¬ q1 = 8 := fun w => z2 (z.trans (t81 (e81.mpr w)))
        obtain ⟨-, k2, k3, k4, -⟩ := f8 (by omega)
        obtain ⟨-, u2, u3, u4, -⟩ := g8 (by omega)
        rw [w0, w1, ck (by omega), ck (by omega), k3, u3]
        refine ⟨vp_in_nI (by omega) (by decide), vp_in_nI (by omega) (by decide), br_n (fun w => cq ((nI_eq (by omega) (by omega)).mp w)) ⟨1, wl_no2 (c := 0) (n := m0) (by omega) k4 f4 ⟨rfl, h23⟩⟩⟩
      · have a8 : C.so y = 8 := by
          by_cases w : C.so y = 8
          · exact w
          · rw [t70 w] at z2; exact absurd z2 (by decide)
        have b8 : C.so y2 = 8 := by
          by_cases w : C.so y2 = 8
          · exact w
          · rw [t71 w] at z; rw [z] at z2; exact absurd z2 (by decide)
        exact absurd (a8.trans b8.symm) c
    · have cq : q0 = q1 := (nI_eq (by omega) (by omega)).mp (by rw [← f6, ← g6]; exact c)
      subst cq
      by_cases t8 : q0 = 8
      · -- two tags
        obtain ⟨z1, z2, z3⟩ := f7 t8
        obtain ⟨u1, u2, u3⟩ := g7 t8
        subst z1
        subst u1
        have tt0 := t80 (e80.mpr t8)
        have tt1 := t81 (e81.mpr t8)
        have fin : ∀ {K : Int32 → mS → Prop}, ((C.nu y = C.nu y2 → K 1 (M.si 23 0)) ∧ (¬ C.nu y = C.nu y2 → K 0 (M.si 23 0))) → wp_X2_alike (nI j0) (nI j1) M K := by
          intro K hk
          refine mod (br_t (tt0.trans tt1.symm) (br_n n0 (br_p tt0 ?_)))
          rw [w0, w1, ck (by omega), ck (by omega), z3, u3]
          exact ⟨vp_in_nI (by omega) (by decide), vp_in_nI (by omega) (by decide), hk.2, hk.1⟩
        refine ⟨fun cn' => fin (br_f cn' ⟨rfl, h23⟩), fun cn' => ⟨ld0, b0, f1, ld1, b1, g1, f2, g2, ?_⟩⟩
        rw [f3, g3]
        exact br_t rfl ⟨1, wl_same1 (v := 0) f2 g2 f3 g3 (by omega) (Nat.le_refl _) (fun c hc => absurd hc (by omega)) (fun hc => absurd hc (by omega)) (br_f (by decide) (fin (br_t cn' ⟨rfl, h23⟩))) 0 0 (by omega)⟩
      · obtain ⟨k1, k2, k3, k4, k5⟩ := f8 (by omega)
        obtain ⟨u1, u2, u3, u4, u5⟩ := g8 (by omega)
        have tt0 := t70 (fun w => t8 (e80.mp w))
        have tt1 := t71 (fun w => t8 (e81.mp w))
        have head : ∀ {K : Int32 → mS → Prop}, ((¬ m0 = m1 → K 0 (M.si 23 0)) ∧ (m0 = m1 → ∃ n136, wl_X2_alike_136 K n136 (nI j0) (nI j1) (nI (id y)) (nI (id y2)) 1 0 (M.si 23 0))) → wp_X2_alike (nI j0) (nI j1) M K := by
          intro K hk
          refine mod (br_t (tt0.trans tt1.symm) (br_n n0 (br_n (by rw [tt0]; decide) ?_)))
          rw [w0, w1, ck (by omega), ck (by omega), k3, u3, k4, u4]
          refine ⟨vp_in_nI (by omega) (by decide), vp_in_nI (by omega) (by decide), br_p rfl ⟨vp_in_nI (by omega) (by decide), vp_in_nI (by omega) (by decide), fun w => ⟨1, wl_no2 (c := 0) (n := m0) (by omega) k4 f4 (hk.1 (fun z => w (by rw [z])))⟩, fun w => hk.2 ((nI_eq (by omega) (by omega)).mp w)⟩⟩
        rw [k1, u1]
        refine ⟨fun cn' => head (br_n (fun z => cn' (by rw [z])) ⟨rfl, h23⟩), fun cn' => ⟨ld0, b0, f1, ld1, b1, g1, f2, g2, ?_⟩⟩
        have em : m0 = m1 := (nI_eq (by omega) (by omega)).mp cn'
        subst em
        rw [f3, g3]
        obtain ⟨v, hv1, hv2, hv3⟩ := first_diff m0 (C.ar b0) (C.ar b1)
        have iff : ∀ c, c < m0 → (C.ar b0 c = C.ar b1 c ↔ M.la 3 (24 * id y + c) = M.la 3 (24 * id y2 + c)) := fun c hc => fR_eq hP.2.2.2 (by omega) (k5 c hc) (u5 c hc)
        have fin : ∀ {K : Int32 → mS → Prop}, K (if v = m0 then 1 else 0) (M.si 23 0) → wp_X2_alike (nI j0) (nI j1) M K := by
          intro K hk
          exact head (br_p rfl ⟨v + 2, wl_same2 (S := M.si 23 0) (n := m0) (v := v) (by omega) (by omega) k4 f4 hv1 (fun c hc => (iff c (by omega)).mp (hv2 c hc)) (fun hc q => hv3 hc ((iff v (by omega)).mpr q)) hk v 0 (by omega)⟩)
        refine br_t rfl ⟨v + 1, wl_same1 f2 g2 f3 g3 f4 hv1 hv2 hv3 ?_ v 0 (by omega)⟩
        by_cases ev : v = m0
        · rw [if_pos ev]
          exact br_f (by decide) (fin (by rw [if_pos ev]; exact ⟨rfl, h23⟩))
        · rw [if_neg ev]
          exact br_t rfl (fin (by rw [if_neg ev]; exact ⟨rfl, h23⟩))
end AlikeA
