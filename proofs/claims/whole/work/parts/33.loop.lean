section LoopA
theorem mul64 {x y : Int64} (h1 : -9223372036854775808 ≤ x.toInt * y.toInt) (h2 : x.toInt * y.toInt < 9223372036854775808) : (x * y).toInt = x.toInt * y.toInt := by
  rw [Int64.toInt_mul]
  exact Int.bmod_eq_of_le (by omega) (by omega)
theorem rngL {k : Nat} (hk : k ≤ 21) (p1 p2 : Int32) : -1000000000000 < (p1.toInt64 + lN k * p2.toInt64).toInt ∧ (p1.toInt64 + lN k * p2.toInt64).toInt < 1000000000000 := by
  have b1 := i32_lo p1
  have b2 := i32_lo p2
  have hk0 : (0 : Int) ≤ (k : Int) := by omega
  have m1 : (k : Int) * p2.toInt ≤ k * 2147483648 := Int.mul_le_mul_of_nonneg_left (by omega) hk0
  have m2 : (k : Int) * (-2147483648) ≤ k * p2.toInt := Int.mul_le_mul_of_nonneg_left (by omega) hk0
  have e1 : (lN k).toInt = (k : Int) := pk_lT (by omega)
  have e2 : (lN k * p2.toInt64).toInt = (k : Int) * p2.toInt := by
    rw [mul64 (by rw [e1, t64]; omega) (by rw [e1, t64]; omega), e1, t64]
  have e3 : (p1.toInt64 + lN k * p2.toInt64).toInt = p1.toInt + (k : Int) * p2.toInt := by
    rw [add64 (by rw [e2, t64]; omega) (by rw [e2, t64]; omega), e2, t64]
  rw [e3]
  omega
theorem pos_nle {r : Int32} (h : r = 0 ∨ (0 < r ∧ ¬ r = 0)) (c : ¬ r = 0) : ¬ r ≤ 0 := by
  rcases h with h | h
  · exact absurd h c
  · intro q
    have := h.1
    rw [i_lt] at this
    rw [i_le] at q
    omega
theorem wl_loop {i Tm : Nat} {M : mS} {p0 p1 p2 : Int32} (hi5 : i < 512) (hT : Tm ≤ 20) : ∀ u d, d + u = Tm → ∀ (C0 : cS) (M0 : mS) (Cd : cS) (Md : mS), dsP i C0 M0 0 Cd 0 Md → (∀ K2 : Int32 → mS → Prop, (∃ n, wl_X2_loop_45 K2 n p0 p1 p2 (nI Tm) (nI d) 0 (nI (d + 1)) Md) → wp_X2_loop p0 p1 p2 (nI Tm) M K2) →
    wl_X1_loop_40 (fun r1 C' => wp_X2_loop p0 p1 p2 (nI Tm) M (fun r2 M' => r1 = r2 ∧ Rel (i + 1) C' M')) (u + 1) p0 p1 p2 (nI Tm) (nI d) Cd := by
  intro u
  induction u with
  | zero =>
    intro d hd C0 M0 Cd Md hds adv
    have hd : d = Tm := by omega
    subst hd
    rw [wl_X1_loop_40]
    refine br_t (nI_le (Nat.le_refl _) (by omega)) (adv _ ⟨1, ?_⟩)
    rw [wl_X2_loop_45]
    exact br_t (nI_lt (by omega) (by omega)) (told_rel (Nat.le_succ i) hds (fun M'' hM => ⟨rfl, hM⟩))
  | succ u ih =>
    intro d hd C0 M0 Cd Md hds adv
    rw [wl_X1_loop_40]
    refine br_f (nI_ge (a := d) (b := Tm) (by omega) (by omega)) ?_
    have e1 : (nI d).toInt64 + 1 = lN (d + 1) := by rw [nI_l (by omega), lN_1]
    have e2 : (nI (d + 1)).toInt64 = lN (d + 1) := nI_l (by omega)
    rw [e1]
    refine sim_ds hds.2.1 (by omega) p0 p1 p0 _ p2 (rngL (by omega) p1 p2) (fun r C' M' hdr hB => ?_)
    have step : ∀ (K2 : Int32 → mS → Prop) (n : Nat), ((¬ r = 0 → wl_X2_loop_45 K2 n p0 p1 p2 (nI Tm) (nI d + 0) r (nI (d + 1) + 1) M') ∧ (r = 0 → wl_X2_loop_45 K2 n p0 p1 p2 (nI Tm) (nI d + 1) r (nI (d + 1) + 1) M')) → wl_X2_loop_45 K2 (n + 1) p0 p1 p2 (nI Tm) (nI d) 0 (nI (d + 1)) Md := by
      intro K2 n hk
      rw [wl_X2_loop_45]
      refine br_f (fun q => ?_) (br_p rfl ?_)
      · have := (nI_ltI (by omega) (by omega)).mp q
        omega
      · rw [e2]
        exact hB _ hk
    refine ⟨fun c => ?_, fun c => ?_⟩
    · refine adv _ ⟨2, step _ 1 ⟨fun _ => ?_, fun q => absurd q c⟩⟩
      rw [wl_X2_loop_45, Int32.add_zero]
      exact ⟨fun _ => told_rel (Nat.le_succ i) hdr (fun M'' hM => ⟨rfl, hM⟩), fun _ => br_n c (told_rel (Nat.le_succ i) hdr (fun M'' hM => ⟨rfl, hM⟩))⟩
    · subst c
      rw [nI_1]
      refine ih (d + 1) (by omega) _ _ C' M' hdr (fun K2 hn => ?_)
      obtain ⟨n, hn⟩ := hn
      refine adv K2 ⟨n + 1, step K2 n ⟨fun q => absurd rfl q, fun _ => ?_⟩⟩
      rw [nI_1, nI_1]
      exact hn
theorem sim_loop {i : Nat} {C : cS} {M : mS} (h : Rel i C M) (hi5 : i < 512) (p0 p1 p2 p3 : Int32) : wp_X1_loop p0 p1 p2 p3 C (fun r1 C' => wp_X2_loop p0 p1 p2 p3 M (fun r2 M' => r1 = r2 ∧ Rel (i + 1) C' M')) := by
  have h6 := rel_6 h (c := 6)
  unfold wp_X1_loop
  rcases spc p0 with hb | ⟨j, hj, rfl⟩
  · exact w1sp0 hb (br_t rfl (w1set (w2beg (w2sp0 hb (br_t rfl (w2told (by decide) (by decide) ⟨rfl, h6⟩))))))
  refine w1sp1 hj (br_f (by decide) ?_)
  by_cases c1 : p3 < 0
  · exact br_t c1 (w1set (w2beg (w2sp1 hj (br_f (by decide) (br_t c1 (w2told (by decide) (by decide) ⟨rfl, h6⟩))))))
  refine br_f c1 ?_
  by_cases c2 : ¬ p3 ≤ (20 : Int32)
  · exact br_f c2 (w1set (w2beg (w2sp1 hj (br_f (by decide) (br_f c1 (br_f c2 (w2told (by decide) (by decide) ⟨rfl, h6⟩)))))))
  have c2 := Classical.not_not.mp c2
  refine br_t c2 (w1set ?_)
  obtain ⟨Tm, hT, rfl⟩ := nI_of2 (M := 20) (n := 20) (by decide) c1 c2
  have hds : dsP i C M 0 (((C.si 7 0).si 8 0).si 9 0) 0 (((M.si 23 0).si 19 0).si 20 0) := ds_fin0 (rel0_of h.1 ⟨rfl, rfl, rfl, rfl, rfl, rfl, rfl, rfl, rfl, rfl, rfl⟩ ⟨rfl, rfl, rfl, rfl, rfl, rfl, rfl⟩ ⟨rfl, rfl, rfl, rfl, rfl, rfl, rfl, rfl, rfl, rfl⟩ ⟨rfl, rfl, rfl, rfl, rfl, rfl, rfl, rfl, rfl⟩) rfl rfl ⟨rfl, rfl, rfl, rfl⟩
  exact ⟨Tm + 1, wl_loop hi5 hT Tm 0 (by omega) _ _ _ _ hds (fun K2 hn => w2beg (w2sp1 hj (br_f (by decide) (br_f c1 (br_t c2 hn)))))⟩
end LoopA
