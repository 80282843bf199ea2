section Spl4
theorem w1unl {A0 A3 : Prop} {s s2 : Nat} (hs : s < 8) (hs2 : s2 < 8) (k0 : (s = s2 ∨ (5 ≤ s ∧ 5 ≤ s2)) → A0) (k3 : ¬ (s = s2 ∨ (5 ≤ s ∧ 5 ≤ s2)) → A3) :
    ((nI s = nI s2 → A0) ∧ (¬ nI s = nI s2 → wp_X1_isOfNumbers (nI s) (fun r19 => ((¬ r19 = 0 → A3) ∧ (r19 = 0 → wp_X1_isOfNumbers (nI s2) (fun r22 => ((r22 = 0 → A0) ∧ (¬ r22 = 0 → A3)))))))) := by
  refine ⟨fun c => k0 (Or.inl ((nI_eq (by omega) (by omega)).mp c)), fun c => w1num (by omega) (fun h5 => br_p rfl (w1num (by omega) (fun h6 => br_t rfl (k0 (Or.inr ⟨h5, h6⟩))) (fun h6 => br_f (by decide) (k3 ?_)))) (fun h5 => br_n (by decide) (k3 ?_))⟩
  · rintro (e | e)
    · exact c (by rw [e])
    · omega
  · rintro (e | e)
    · exact c (by rw [e])
    · omega
theorem w2spl {j0 j1 r r2 s s2 n n2 : Nat} {p1 : Int32} {p3 : Int64} {p4 : Int32} {M : mS} {K : Int32 → mS → Prop} (hj0 : j0 < 8) (hj1 : j1 < 8) (h40 : M.ia 4 j0 = 1) (h41 : M.ia 4 j1 = 1) (h50 : M.ia 5 j0 = nI r) (h51 : M.ia 5 j1 = nI r2) (hr : r < 512) (hr2 : r2 < 512)
    (hs : s < 8) (hs2 : s2 < 8) (e1 : M.ia 1 r = nI s) (e12 : M.ia 1 r2 = nI s2) (e2 : M.ia 2 r = nI n) (e22 : M.ia 2 r2 = nI n2)
    (k3 : ¬ (s = s2 ∨ (5 ≤ s ∧ 5 ≤ s2)) → K 3 ((M.si 19 0).si 20 0)) (k4 : (s = s2 ∨ (5 ≤ s ∧ 5 ≤ s2)) → ¬ wv p1 p3 p4 (nI n) (nI n2) = 0 → K 4 (((M.si 19 0).si 20 0).si 19 (wv p1 p3 p4 (nI n) (nI n2))))
    (k0 : (s = s2 ∨ (5 ≤ s ∧ 5 ≤ s2)) → wv p1 p3 p4 (nI n) (nI n2) = 0 → ∃ u, wl_X2_spliced_166 K u (nI j0) p1.toInt64 (nI j1) p3 p4.toInt64 (nI r) (nI r2) 0 (((M.si 19 0).si 20 0).si 19 0)) : wp_X2_spliced (nI j0) p1.toInt64 (nI j1) p3 p4.toInt64 M K := by
  unfold wp_X2_spliced
  have v0 := vp_in_nI hj0 (show 8 < 2 ^ 31 by decide)
  have v1 := vp_in_nI hj1 (show 8 < 2 ^ 31 by decide)
  refine w2beg (w2sp1 hj0 (br_f (by decide) (w2sp1 hj1 (br_n (by decide) ⟨v0, br_f (lne hj0 h40 (by decide)) ⟨v1, br_n (lne hj1 h41 (by decide)) ⟨v0, br_f (lne hj0 h40 (by decide)) ⟨v1, br_n (lne hj1 h41 (by decide)) ⟨v0, v1, ?_⟩⟩⟩⟩⟩))))
  rw [ck (by omega), ck (by omega)]
  have g50 : ((M.si 19 0).si 20 0).ia 5 j0 = nI r := h50
  have g51 : ((M.si 19 0).si 20 0).ia 5 j1 = nI r2 := h51
  have g1 : ((M.si 19 0).si 20 0).ia 1 r = nI s := e1
  have g12 : ((M.si 19 0).si 20 0).ia 1 r2 = nI s2 := e12
  have g2 : ((M.si 19 0).si 20 0).ia 2 r = nI n := e2
  have g22 : ((M.si 19 0).si 20 0).ia 2 r2 = nI n2 := e22
  have vr := vp_in_nI (show r < 513 by omega) (show 513 < 2 ^ 31 by decide)
  have vr2 := vp_in_nI (show r2 < 513 by omega) (show 513 < 2 ^ 31 by decide)
  rw [g50, g51, ck (by omega), ck (by omega), g1, g12, g2, g22]
  have W : (s = s2 ∨ (5 ≤ s ∧ 5 ≤ s2)) → wp_X2_wayOf p1.toInt64 p3 p4.toInt64 (nI n) (nI n2) (fun r22 => ((r22 ≤ 0 → (∃ n166 : Nat, wl_X2_spliced_166 K n166 (nI j0) p1.toInt64 (nI j1) p3 p4.toInt64 (nI r) (nI r2) 0 (((M.si 19 0).si 20 0).si 19 r22))) ∧ (¬ r22 ≤ 0 → K 4 (((M.si 19 0).si 20 0).si 19 r22)))) := by
    intro un
    refine w2way ?_
    rcases wv_rng p1 p3 p4 (nI n) (nI n2) with e | ⟨z1, z2⟩
    · rw [e]
      exact br_t (by decide) (k0 un e)
    · exact br_f (fun q => by rw [i_le] at q; rw [i_lt] at z1; omega) (k4 un z2)
  refine ⟨vr, vr2, fun c => ⟨vr, vr2, W (Or.inl ((nI_eq (by omega) (by omega)).mp c))⟩, fun c => ⟨vr, w2num (by omega) (fun h5 => br_p rfl ⟨vr2, w2num (by omega) (fun h6 => br_t rfl ⟨vr, vr2, W (Or.inr ⟨h5, h6⟩)⟩) (fun h6 => br_f (by decide) (k3 ?_))⟩) (fun h5 => br_n (by decide) (k3 ?_))⟩⟩
  · rintro (e | e)
    · exact c (by rw [e])
    · omega
  · rintro (e | e)
    · exact c (by rw [e])
    · omega
theorem fR_like {s s2 Sh : Nat} {sn sk : Nat → Int32} {x y : Int64} (un : s = s2 ∨ (5 ≤ s ∧ 5 ≤ s2)) (h : fR s sn sk Sh x y) : fR s2 sn sk Sh x y := by
  rcases un with rfl | ⟨u1, u2⟩
  · exact h
  · exact ⟨fun q => absurd q (by omega), fun _ => h.2 u1⟩
end Spl4
