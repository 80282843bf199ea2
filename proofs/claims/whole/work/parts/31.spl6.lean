section Spl6
theorem sim_ds {i : Nat} {C : cS} {M : mS} (h : Rel0 i C M) (hi5 : i ≤ 512) (p0 p1 p2 : Int32) (p3 : Int64) (p4 : Int32) (hp : -1000000000000 < p3.toInt ∧ p3.toInt < 1000000000000) {A : Int32 → cS → Prop} (hA : ∀ r C' M', dsP i C M r C' r M' → (∀ B : Int32 → mS → Prop, B r M' → wp_X2_spliced p0 p1.toInt64 p2 p3 p4.toInt64 M B) → A r C') :
    wp_X1_doSplice p0 p1 p2 p3 p4 C A := by
  have h0 := h
  obtain ⟨id, R, T, Sh, cn, bc, hi, hN, hL, hP, hS, hB⟩ := h
  obtain ⟨i1, i2, i3⟩ := hi
  refine ds_pair h0 hP hS p0 p1 p2 p3 p4 hA ?_
  intro j0 a0 b0 n0 s0 j1 a1 b1 n1 s1 hj0 e0 h10 h20 h30 h40 h50 hs0 hl0 hj1 e1 h11 h21 h31 h41 h51 hs1 hl1
  subst e0
  subst e1
  have hl0' := hl0
  have hl1' := hl1
  obtain ⟨l1, l2, l3, l4, l5, l6, l7, l8⟩ := hl0'
  obtain ⟨m1, m2, m3, m4, m5, m6, m7, m8⟩ := hl1'
  obtain ⟨k1, k2, k3, k4, k5⟩ := l8 hs0
  obtain ⟨z1, z2, z3, z4, z5⟩ := m8 hs1
  have v0 := vp_in_nI hj0 (show 8 < 2 ^ 31 by decide)
  have v1 := vp_in_nI hj1 (show 8 < 2 ^ 31 by decide)
  have u0 : ∀ y, C.sp j0 = some y → y = a0 := fun y e => Option.some.inj (e.symm.trans h10)
  have u1 : ∀ y, C.sp j1 = some y → y = a1 := fun y e => Option.some.inj (e.symm.trans h11)
  have w0 : ∀ {P : Prop}, C.sp j0 = none → P := fun e => absurd (e.symm.trans h10) (by simp)
  have w1 : ∀ {P : Prop}, C.sp j1 = none → P := fun e => absurd (e.symm.trans h11) (by simp)
  unfold wp_X1_doSplice wp_X1_refusalOfPair
  refine w1rr0 hj0 h10 h20 h30 (w1rr0 hj1 h11 h21 h31 (br_f (by decide) (br_n (by decide) (br_f (by decide) (br_n (by decide) (br_f (by decide) (br_n (by decide) ⟨v0, ?_⟩)))))))
  rw [ck (by omega), ck (by omega)]
  refine ⟨w0, fun y e => ?_⟩
  cases u0 y e
  refine ⟨h20, v1, w1, fun y2 e2 => ?_⟩
  cases u1 y2 e2
  refine ⟨h21, ?_⟩
  rw [l6, m6]
  refine w1unl hs0 hs1 (fun un => ?_) (fun un => br_f (by decide) (w1set (hA _ _ _ (ds_ref h0 (by decide)) (fun B hB => w2spl hj0 hj1 h40 h41 h50 h51 (by omega) (by omega) hs0 hs1 k3 z3 k4 z4 (fun _ => hB) (fun c => absurd c un) (fun c => absurd c un)))))
  refine br_t rfl ⟨v0, w0, fun y5 e5 => ?_⟩
  cases u0 y5 e5
  refine ⟨v1, w1, fun y6 e6 => ?_⟩
  cases u1 y6 e6
  refine ⟨h20, b0, l1, l2, h21, b1, m1, m2, ?_⟩
  rw [l3, m3]
  refine w1way ?_
  by_cases hw : ¬ wv p1 p3 p4 (nI n0) (nI n1) = 0
  · exact br_f hw (w1set (hA _ _ _ (ds_way h0) (fun B hB => w2spl hj0 hj1 h40 h41 h50 h51 (by omega) (by omega) hs0 hs1 k3 z3 k4 z4 (fun c => absurd un c) (fun _ _ => hB) (fun _ c => absurd c hw))))
  have hw := Classical.not_not.mp hw
  refine br_t hw ⟨h20, b0, l1, h21, ?_⟩
  obtain ⟨t, m, q, rfl, rfl, rfl, htm, hqm, hqb⟩ := wv_0 l4 hp hw
  rw [nI_toInt (by omega)] at hqm
  have hqm : q + m ≤ n1 := by omega
  obtain ⟨g, hg, hg1, hg2⟩ := going s1 m (fun c => C.ar b0 (t + c))
  have sp2 : ∀ {K : Int32 → mS → Prop}, (g = m → g = 0 → K 0 ((gE (((M.si 19 0).si 20 0).si 19 0) (id a0) t g).si 21 ((gE (((M.si 19 0).si 20 0).si 19 0) (id a0) t g).fi 21 + 1))) → (g < m → g = 0 → K 5 ((gE (((M.si 19 0).si 20 0).si 19 0) (id a0) t g).si 20 (nI g))) →
      (g = m → 0 < g → K 0 ((gE2 (gE (((M.si 19 0).si 20 0).si 19 0) (id a0) t g) (id a1) q g).si 21 ((gE2 (gE (((M.si 19 0).si 20 0).si 19 0) (id a0) t g) (id a1) q g).fi 21 + 1))) → (g < m → 0 < g → K 5 ((gE2 (gE (((M.si 19 0).si 20 0).si 19 0) (id a0) t g) (id a1) q g).si 20 (nI g))) →
      wp_X2_spliced (nI j0) (nI t).toInt64 (nI j1) (lN q) (nI m).toInt64 M K := by
    intro K f1 f2 f3 f4
    refine w2spl hj0 hj1 h40 h41 h50 h51 (by omega) (by omega) hs0 hs1 k3 z3 k4 z4 (fun c => absurd un c) (fun _ c => absurd hw c) (fun _ _ => ⟨g + 1, ?_⟩)
    rw [nI_l (by omega), nI_l (by omega)]
    have := wl_spliced (S := ((M.si 19 0).si 20 0).si 19 0) (K := K) (r := id a0) (t := t) (m := m) (r2 := id a1) (s2 := s1) (q := q) (g := g) (Sh := Sh) (v1 := nI j0) (v4 := nI j1) (xf := C.ar b0) (sn := M.ia 7) (sk := M.ia 8) (by omega) (by omega) (by omega) (by omega) hs1 z3 rfl hP.2.2.2 (by omega)
      (fun c hc h5 => by
        have := (fR_like un (k5 (t + c) (by omega))).2 h5
        rw [← Nat.add_assoc] at this
        exact this) hg hg1 hg2 f1 f2 f3 f4 g 0 (by omega)
    rw [show gE (((M.si 19 0).si 20 0).si 19 0) (id a0) t 0 = ((M.si 19 0).si 20 0).si 19 0 from by unfold gE; rw [cpy_0]; exact stl_self _ _] at this
    exact this
  rw [m6]
  refine w1borne l2 l3 l4 htm hs1 hg hg1 hg2 ?_
  have le0 : nI g ≤ 0 ↔ g ≤ 0 := nI_leI (b := 0) (by omega) (by decide)
  have lem : nI m ≤ nI g ↔ m ≤ g := nI_leI (by omega) (by omega)
  have hf := gE_gF M (id a0) t g
  generalize gE (((M.si 19 0).si 20 0).si 19 0) (id a0) t g = M1 at hf sp2
  have hk1 : M1.ia 9 = M.ia 9 := by rw [hf.2.1]
  have hk2 : M1.fi 12 = M.fi 12 := hf.2.2.2.2.2.2.1
  by_cases g0 : g = 0
  · refine br_t (le0.mpr (by omega)) ?_
    have hR := rel0_gF h0 hf
    by_cases gm : g = m
    · exact br_t (lem.mpr (by omega)) (w1set (hA _ _ _ (ds_fin0 (rel0_21 hR) hf.1.1 hf.1.2 ⟨rfl, rfl, hk1, hk2⟩) (fun B hB => sp2 (fun _ _ => hB) (fun c => absurd gm (by omega)) (fun _ c => absurd g0 (by omega)) (fun c => absurd gm (by omega)))))
    · exact br_f (fun c => gm (by have := lem.mp c; omega)) (w1set (hA _ _ _ (ds_fin5 hR hf.1.1 ⟨rfl, rfl, hk1, hk2⟩) (fun B hB => sp2 (fun c => absurd c gm) (fun _ _ => hB) (fun c => absurd c gm) (fun _ c => absurd g0 (by omega)))))
  · have hR := rel0_gE2 hf (rel0_went (q := q) (g := g) (m := m) (t := t) ⟨i1, i2, i3⟩ hN hL hP hS h20 hs0 hl0 h21 hs1 hl1 un htm hqm hg)
    refine br_f (fun c => g0 (by have := le0.mp c; omega)) ?_
    rw [lN_i]
    refine ⟨h21, b1, m1, m2, nI_pos (by omega), by decide, nI_pos (by omega), ?_⟩
    rw [ck (by omega), ck (by omega), m3]
    refine ⟨by omega, by show 0 + g ≤ 24; omega, h20, b0, l1, h21, b1, m1, l2, m2, nI_pos (by omega), nI_pos (by omega), nI_pos (by omega), ?_⟩
    rw [ck (by omega)]
    refine ⟨by show t + g ≤ C.ln b0; omega, by show q + g ≤ C.ln b1; omega, ?_⟩
    by_cases gm : g = m
    · exact br_t (lem.mpr (by omega)) (w1set (hA _ _ _ (ds_fin0 (rel0_21 hR) hf.1.1 hf.1.2 ⟨rfl, rfl, hk1, hk2⟩) (fun B hB => sp2 (fun _ c => absurd c g0) (fun _ c => absurd c g0) (fun _ _ => hB) (fun c => absurd gm (by omega)))))
    · exact br_f (fun c => gm (by have := lem.mp c; omega)) (w1set (hA _ _ _ (ds_fin5 hR hf.1.1 ⟨rfl, rfl, hk1, hk2⟩) (fun B hB => sp2 (fun c => absurd c gm) (fun _ c => absurd c g0) (fun c => absurd c gm) (fun _ _ => hB))))
end Spl6
