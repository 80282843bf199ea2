section LookA
theorem i2c {p : Int32} : (2 : Int32) < p ↔ (3 : Int32) ≤ p := by
  rw [i_lt, i_le]
  have h1 : (2 : Int32).toInt = 2 := by decide
  have h2 : (3 : Int32).toInt = 3 := by decide
  omega
theorem wl_low1 {C : cS} {K : Int32 → cS → Prop} {a Lw : Nat} (hL : Lw < 8) (h1 : C.sp Lw = some a) (h2 : ∀ x, x < Lw → ¬ C.sp x = some a) (k : K (nI Lw) C) : ∀ u c, c + u = Lw → wl_X1_lowestWith_2 K (u + 1) a (nI c) C := by
  intro u
  induction u with
  | zero =>
    intro c hc
    have hc : c = Lw := by omega
    subst hc
    rw [wl_X1_lowestWith_2, ck (by omega)]
    refine br_f (nI_ge (a := c) (b := 8) hL (by decide)) ⟨vp_in_nI hL (by decide), fun e => absurd (e.symm.trans h1) (by simp), fun y e => ?_⟩
    have ey : y = a := Option.some.inj (e.symm.trans h1)
    subst ey
    exact br_p rfl k
  | succ u ih =>
    intro c hc
    rw [wl_X1_lowestWith_2, ck (by omega), nI_1]
    have ih' := ih (c + 1) (by omega)
    refine br_f (nI_ge (a := c) (b := 8) (by omega) (by decide)) ⟨vp_in_nI (by omega) (by decide), fun e => br_n (by simp) ih', fun y e => br_n (fun q => h2 c (by omega) (e.trans q)) ih'⟩
theorem wl_low2 {S : mS} {K : Int32 → mS → Prop} {j Lw : Nat} {p1 tg : Int32} (hj : j < 8) (hL : Lw < 8) (h1 : S.ia 4 Lw = S.ia 4 j ∧ S.ia 5 Lw = S.ia 5 j) (h2 : ∀ x, x < Lw → ¬ (S.ia 4 x = S.ia 4 j ∧ S.ia 5 x = S.ia 5 j)) (k : K (nI Lw) S) : ∀ c, c ≤ 8 → ∀ v4, (c ≤ Lw → v4 = nI Lw) → wl_X2_look_115 K (c + 1) (nI j) p1 tg v4 (nI c + (-1)) S := by
  intro c
  induction c with
  | zero =>
    intro _ v4 hv
    rw [wl_X2_look_115, hv (by omega)]
    exact br_t (by decide) k
  | succ c ih =>
    intro hc v4 hv
    rw [wl_X2_look_115, pk_m1, ck (by omega), ck (by omega)]
    have vc := vp_in_nI (show c < 8 by omega) (show 8 < 2 ^ 31 by decide)
    have vj := vp_in_nI hj (show 8 < 2 ^ 31 by decide)
    have no : ¬ (S.ia 4 c = S.ia 4 j ∧ S.ia 5 c = S.ia 5 j) → wl_X2_look_115 K (c + 1) (nI j) p1 tg v4 (nI c + (-1)) S := by
      intro q
      refine ih (by omega) v4 (fun hl => hv ?_)
      have : c ≠ Lw := fun e => q (e ▸ h1)
      omega
    refine br_f (nI_pos (by omega)) ⟨vc, vj, fun q => no (fun z => q z.1), fun q => ⟨vc, vj, fun q2 => no (fun z => q2 z.2), fun q2 => ih (by omega) (nI c) (fun hl => ?_)⟩⟩
    have : ¬ c < Lw := fun z => h2 c z ⟨q, q2⟩
    rw [show c = Lw by omega]
/-- the lowest spindle with the very same: the same one in both -/
theorem low_both {C : cS} {M : mS} {id : Nat → Nat} {R T Sh j a : Nat} (hP : PoolC C M id R T Sh) (hS : Spn C.sp C.L C.kd C.so (M.ia 4) (M.ia 5) id) (hR : R ≤ 512) (hT : T ≤ 512) (hj : j < 8) (h1 : C.sp j = some a) : ∃ Lw, Lw < 8 ∧ (C.sp Lw = some a ∧ ∀ x, x < Lw → ¬ C.sp x = some a) ∧ ((M.ia 4 Lw = M.ia 4 j ∧ M.ia 5 Lw = M.ia 5 j) ∧ ∀ x, x < Lw → ¬ (M.ia 4 x = M.ia 4 j ∧ M.ia 5 x = M.ia 5 j)) := by
  obtain ⟨Lw, hL1, hL2⟩ := pk_least (fun x => C.sp x = some a) ⟨j, h1⟩
  have hLj : Lw ≤ j := Nat.le_of_not_lt fun q => hL2 j q h1
  have bnd : ∀ x, C.ld x → id x < 512 := by
    intro x hx
    obtain ⟨b, n, s, l1, l2, l3, l4, l5, l6, l7, l8⟩ := hP.1 x hx
    by_cases e : s = 8
    · have := (l7 e).2.1; omega
    · have := (l8 (by omega)).2.1; omega
  have key : ∀ x, x < 8 → (C.sp x = some a ↔ (M.ia 4 x = M.ia 4 j ∧ M.ia 5 x = M.ia 5 j)) := by
    intro x hx
    rcases hS j hj with ⟨e, -⟩ | ⟨a', e, hl, e5, e8, e7⟩
    · rw [h1] at e; cases e
    · have ea : a' = a := Option.some.inj (e.symm.trans h1)
      subst ea
      rcases hS x hx with ⟨f, f4⟩ | ⟨a2, f, fl', f5, f8, f7⟩
      · rw [f, f4]
        constructor
        · intro q; cases q
        · rintro ⟨q, -⟩
          by_cases z : C.so a' = 8
          · rw [e8 z] at q; exact absurd q (by decide)
          · rw [e7 z] at q; exact absurd q (by decide)
      · constructor
        · intro q
          have : a2 = a' := Option.some.inj (f.symm.trans q)
          subst this
          by_cases z : C.so a2 = 8
          · exact ⟨(f8 z).trans (e8 z).symm, f5.trans e5.symm⟩
          · exact ⟨(f7 z).trans (e7 z).symm, f5.trans e5.symm⟩
        · rintro ⟨q4, q5⟩
          have so : C.so a2 = 8 ↔ C.so a' = 8 := by
            constructor
            · intro z
              by_cases w : C.so a' = 8
              · exact w
              · rw [f8 z, e7 w] at q4; exact absurd q4 (by decide)
            · intro z
              by_cases w : C.so a2 = 8
              · exact w
              · rw [f7 w, e8 z] at q4; exact absurd q4 (by decide)
          have b1 := bnd a2 fl'
          have b2 := bnd a' hl
          have hid : id a2 = id a' := (nI_eq (by omega) (by omega)).mp (by rw [← f5, ← e5]; exact q5)
          rw [f, hP.2.1 a2 a' fl' hl so hid]
  exact ⟨Lw, by omega, ⟨hL1, hL2⟩, (key Lw (by omega)).mp hL1, fun x hx q => hL2 x hx ((key x (by omega)).mpr q)⟩
theorem w1ld0 {p : Int32} {C : cS} {K : Option Nat → cS → Prop} (h : p < 0 ∨ (8 : Int32) ≤ p) (k : K none C) : wp_X1_loadOn p C K := w1sp0 h (br_t rfl k)
theorem w1ld1 {j : Nat} {C : cS} {K : Option Nat → cS → Prop} (hj : j < 8) (k : K (C.sp j) C) : wp_X1_loadOn (nI j) C K :=
  w1sp1 hj (br_f (by decide) ⟨vp_in_nI hj (by decide), by rw [ck (by omega)]; exact ⟨fun e => by rw [e] at k; exact k, fun y e => by rw [e] at k; exact k⟩⟩)
theorem what_or (p : Int32) : p = 0 ∨ p = 1 ∨ p = 2 ∨ (¬ p = 0 ∧ ¬ p = 1 ∧ ¬ p = 2 ∧ (p < 0 ∨ (2 : Int32) < p)) := by
  by_cases e0 : p = 0
  · exact Or.inl e0
  by_cases e1 : p = 1
  · exact Or.inr (Or.inl e1)
  by_cases e2 : p = 2
  · exact Or.inr (Or.inr (Or.inl e2))
  refine Or.inr (Or.inr (Or.inr ⟨e0, e1, e2, ?_⟩))
  rcases pk_ix p (n := 3) (by decide) with h | h | ⟨j, hj, rfl⟩
  · exact Or.inl h
  · exact Or.inr (i2c.mpr h)
  · rcases (show j = 0 ∨ j = 1 ∨ j = 2 by omega) with rfl | rfl | rfl
    · exact absurd rfl e0
    · exact absurd rfl e1
    · exact absurd rfl e2
theorem sim_look {i : Nat} {C : cS} {M : mS} (h : Rel i C M) (hi5 : i < 512) (p0 p1 : Int32) : wp_X1_look p0 p1 C (fun r1 C' => wp_X2_look p0 p1 M (fun r2 M' => r1 = r2 ∧ Rel (i + 1) C' M')) := by
  have h23 := rel_23 h 0
  obtain ⟨⟨id, R, T, Sh, cn, bc, ⟨i1, i2, i3⟩, hN, hL, hP, hS, hB⟩, hr⟩ := h
  unfold wp_X1_look wp_X2_look
  rcases spCase hP hS p0 with hb | ⟨j, hj, rfl, h1, h2⟩ | ⟨j, a, b, n, hj, rfl, h1, h2, h3, h4, h5, hl⟩ | ⟨j, a, b, n, s, hj, rfl, h1, h2, h3, h4, h5, hs, hl⟩
  · exact w1ld0 hb ⟨fun _ => w2sp0 hb (br_t rfl ⟨rfl, h23⟩), fun y e => by cases e⟩
  · refine w1ld1 hj ?_
    rw [h1]
    refine ⟨fun _ => w2sp1 hj (br_f (by decide) ?_), fun y e => by cases e⟩
    rw [ck (by omega)]
    exact ⟨fun _ => ⟨rfl, h23⟩, fun _ => ⟨fun _ => ⟨rfl, h23⟩, fun _ => ⟨vp_in_nI hj (by decide), br_p h2 ⟨rfl, h23⟩⟩⟩⟩
  · obtain ⟨l1, l2, l3, l4, l5, l6, l7, l8⟩ := hl
    obtain ⟨k1, k2, k3⟩ := l7 rfl
    have vj := vp_in_nI hj (show 8 < 2 ^ 31 by decide)
    have vi := vp_in_nI (show id a < 513 by omega) (show 513 < 2 ^ 31 by decide)
    refine w1ld1 hj ?_
    rw [h1]
    refine ⟨fun e => (by cases e), fun y e => ?_⟩
    cases e
    rcases what_or p1 with rfl | rfl | rfl | ⟨q0, q1, q2, q3⟩
    · refine ⟨fun _ => ⟨h2, ?_⟩, fun q => absurd q (by decide), fun q => absurd q (by decide), fun q => absurd rfl q⟩
      refine w2sp1 hj (br_f (by decide) (br_f (by decide) (br_f (by decide) ⟨vj, ?_⟩)))
      rw [ck (by omega), h4, h5, ck (by omega)]
      exact br_n (by decide) ⟨vj, br_p rfl (br_p rfl ⟨h3, h23⟩)⟩
    · refine ⟨fun q => absurd q (by decide), fun _ => ⟨h2, ?_⟩, fun q => absurd q (by decide), fun _ q => absurd rfl q⟩
      refine w2sp1 hj (br_f (by decide) (br_f (by decide) (br_f (by decide) ⟨vj, ?_⟩)))
      rw [ck (by omega), h4, h5, ck (by omega)]
      exact br_n (by decide) ⟨vj, br_p rfl (br_n (by decide) (br_p rfl ⟨vj, vi, k3.symm, h23⟩))⟩
    · obtain ⟨Lw, hLw, ⟨z1, z2⟩, z3, z4⟩ := low_both hP hS (by omega) (by omega) hj h1
      refine ⟨fun q => absurd q (by decide), fun q => absurd q (by decide), fun _ => ⟨Lw + 1, wl_low1 hLw z1 z2 ?_ Lw 0 (by omega)⟩, fun _ _ q => absurd rfl q⟩
      refine w2sp1 hj (br_f (by decide) (br_f (by decide) (br_f (by decide) ⟨vj, ?_⟩)))
      have := wl_low2 (S := M.si 23 0) (K := fun r2 M' => nI Lw = r2 ∧ Rel (i + 1) C M') (p1 := 2) (tg := 1) hj hLw z3 z4 ⟨rfl, h23⟩ 8 (by omega) (nI j) (fun q => absurd q (by omega))
      rw [ck (by omega), h4]
      exact br_n (by decide) ⟨vj, br_p rfl (br_n (by decide) (br_n (by decide) ⟨9, this⟩))⟩
    · refine ⟨fun q => absurd q q0, fun q => absurd q q1, fun q => absurd q q2, fun _ _ _ => w2sp1 hj (br_f (by decide) ?_)⟩
      rcases q3 with q3 | q3
      · exact br_t q3 ⟨rfl, h23⟩
      · exact ⟨fun _ => ⟨rfl, h23⟩, fun _ => br_t q3 ⟨rfl, h23⟩⟩
  · obtain ⟨l1, l2, l3, l4, l5, l6, l7, l8⟩ := hl
    obtain ⟨k1, k2, k3, k4, k5⟩ := l8 hs
    have vj := vp_in_nI hj (show 8 < 2 ^ 31 by decide)
    have vi := vp_in_nI (show id a < 513 by omega) (show 513 < 2 ^ 31 by decide)
    refine w1ld1 hj ?_
    rw [h1]
    refine ⟨fun e => (by cases e), fun y e => ?_⟩
    cases e
    rcases what_or p1 with rfl | rfl | rfl | ⟨q0, q1, q2, q3⟩
    · refine ⟨fun _ => ⟨h2, ?_⟩, fun q => absurd q (by decide), fun q => absurd q (by decide), fun q => absurd rfl q⟩
      refine w2sp1 hj (br_f (by decide) (br_f (by decide) (br_f (by decide) ⟨vj, ?_⟩)))
      rw [ck (by omega), h4, h5, ck (by omega)]
      exact br_n (by decide) ⟨vj, br_n (by decide) (br_p rfl ⟨vj, vi, l6.trans k3.symm, h23⟩)⟩
    · refine ⟨fun q => absurd q (by decide), fun _ => ⟨h2, ?_⟩, fun q => absurd q (by decide), fun _ q => absurd rfl q⟩
      refine w2sp1 hj (br_f (by decide) (br_f (by decide) (br_f (by decide) ⟨vj, ?_⟩)))
      rw [ck (by omega), h4, h5, ck (by omega)]
      exact br_n (by decide) ⟨vj, br_n (by decide) (br_n (by decide) (br_p rfl ⟨vj, vi, k1.trans k4.symm, h23⟩))⟩
    · obtain ⟨Lw, hLw, ⟨z1, z2⟩, z3, z4⟩ := low_both hP hS (by omega) (by omega) hj h1
      refine ⟨fun q => absurd q (by decide), fun q => absurd q (by decide), fun _ => ⟨Lw + 1, wl_low1 hLw z1 z2 ?_ Lw 0 (by omega)⟩, fun _ _ q => absurd rfl q⟩
      refine w2sp1 hj (br_f (by decide) (br_f (by decide) (br_f (by decide) ⟨vj, ?_⟩)))
      have := wl_low2 (S := M.si 23 0) (K := fun r2 M' => nI Lw = r2 ∧ Rel (i + 1) C M') (p1 := 2) (tg := 0) hj hLw z3 z4 ⟨rfl, h23⟩ 8 (by omega) (nI j) (fun q => absurd q (by omega))
      rw [ck (by omega), h4]
      exact br_n (by decide) ⟨vj, br_n (by decide) (br_n (by decide) (br_n (by decide) ⟨9, this⟩))⟩
    · refine ⟨fun q => absurd q q0, fun q => absurd q q1, fun q => absurd q q2, fun _ _ _ => w2sp1 hj (br_f (by decide) ?_)⟩
      rcases q3 with q3 | q3
      · exact br_t q3 ⟨rfl, h23⟩
      · exact ⟨fun _ => ⟨rfl, h23⟩, fun _ => br_t q3 ⟨rfl, h23⟩⟩
end LookA
