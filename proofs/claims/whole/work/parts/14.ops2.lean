section Ops2
theorem rel_23 {i : Nat} {C : cS} {M : mS} (h : Rel i C M) (t : Int32) : Rel (i + 1) C (M.si 23 t) :=
  ⟨rel0_of (rel0_up (Nat.le_succ i) h.1) ⟨rfl, rfl, rfl, rfl, rfl, rfl, rfl, rfl, rfl, rfl, rfl⟩ ⟨rfl, rfl, rfl, rfl, rfl, rfl, rfl⟩ ⟨rfl, rfl, rfl, rfl, rfl, rfl, rfl, rfl, rfl, rfl⟩ ⟨rfl, rfl, rfl, rfl, rfl, rfl, rfl, rfl, rfl⟩, h.2⟩
theorem sim_refusal {i : Nat} {C : cS} {M : mS} (h : Rel i C M) (p0 : Int32) : wp_X1_refusal p0 C (fun r1 C' => wp_X2_refusal p0 M (fun r2 M' => r1 = r2 ∧ Rel (i + 1) C' M')) := by
  unfold wp_X1_refusal wp_X2_refusal
  refine ⟨fun e => ?_, fun e => ?_, fun e => ?_, fun e0 e1 e2 => ?_⟩
  · exact br_p e ⟨h.2.1, rel_23 h 0⟩
  · exact br_n (by rw [e]; decide) (br_p e ⟨h.2.2.1, rel_23 h 0⟩)
  · exact br_n (by rw [e]; decide) (br_n (by rw [e]; decide) (br_p e ⟨h.2.2.2, rel_23 h 0⟩))
  · exact br_n e0 (br_n e1 (br_n e2 ⟨rfl, rel_23 h 0⟩))
theorem sim_count {i : Nat} {C : cS} {M : mS} (h : Rel i C M) (p0 : Int32) : wp_X1_count p0 C (fun r1 C' => wp_X2_count p0 M (fun r2 M' => r1 = r2 ∧ Rel (i + 1) C' M')) := by
  have h' := rel_23 h 0
  obtain ⟨⟨id, R, T, Sh, cn, bc, hi, ⟨n1, n2, n3, n4, n5, n6, n7, n8, n9, n10, n11, n12, n13⟩, -⟩, -⟩ := h
  unfold wp_X1_count wp_X2_count
  refine ⟨fun e => ?_, fun e => ?_, fun e => ?_, fun e => ?_, fun e => ?_, fun e => ?_, fun e0 e1 e2 e3 e4 e5 => ?_⟩
  · subst e
    exact ⟨fun _ => ⟨n1.trans n2.symm, h'⟩, fun q => absurd q (by decide), fun q => absurd q (by decide), fun q => absurd q (by decide), fun q => absurd q (by decide), fun q => absurd q (by decide), fun q => absurd rfl q⟩
  · subst e
    exact ⟨fun q => absurd q (by decide), fun _ => ⟨n12, h'⟩, fun q => absurd q (by decide), fun q => absurd q (by decide), fun q => absurd q (by decide), fun q => absurd q (by decide), fun _ q => absurd rfl q⟩
  · subst e
    exact ⟨fun q => absurd q (by decide), fun q => absurd q (by decide), fun _ => ⟨n13, h'⟩, fun q => absurd q (by decide), fun q => absurd q (by decide), fun q => absurd q (by decide), fun _ _ q => absurd rfl q⟩
  · subst e
    exact ⟨fun q => absurd q (by decide), fun q => absurd q (by decide), fun q => absurd q (by decide), fun _ => ⟨n6.trans n7.symm, h'⟩, fun q => absurd q (by decide), fun q => absurd q (by decide), fun _ _ _ q => absurd rfl q⟩
  · subst e
    exact ⟨fun q => absurd q (by decide), fun q => absurd q (by decide), fun q => absurd q (by decide), fun q => absurd q (by decide), fun _ => ⟨n9.trans n10.symm, h'⟩, fun q => absurd q (by decide), fun _ _ _ _ q => absurd rfl q⟩
  · subst e
    exact ⟨fun q => absurd q (by decide), fun q => absurd q (by decide), fun q => absurd q (by decide), fun q => absurd q (by decide), fun q => absurd q (by decide), fun _ => ⟨n4.trans n5.symm, h'⟩, fun _ _ _ _ _ q => absurd rfl q⟩
  · exact ⟨fun q => absurd q e0, fun q => absurd q e1, fun q => absurd q e2, fun q => absurd q e3, fun q => absurd q e4, fun q => absurd q e5, fun _ _ _ _ _ _ => ⟨rfl, h'⟩⟩
theorem sim_note {i : Nat} {C : cS} {M : mS} (h : Rel i C M) (p0 p1 p2 p3 p4 : Int32) : wp_X1_note p0 p1 p2 p3 p4 C (fun r1 C' => wp_X2_note p0 p1 p2 p3 p4 M (fun r2 M' => r1 = r2 ∧ Rel (i + 1) C' M')) := by
  have h' := rel_23 h 0
  obtain ⟨⟨id, R, T, Sh, cn, bc, ⟨i1, i2, i3⟩, ⟨n1, n2, n3, n4, n5, n6, n7, n8, n9, n10, n11, n12, n13⟩, hL, hP, hS, hB⟩, hr⟩ := h
  unfold wp_X1_note wp_X2_note
  have e0 : nI cn * 5 = nI (5 * cn) := by rw [show (5 : Int32) = nI 5 from rfl, pk_mul, Nat.mul_comm]
  have e0' : 5 * nI cn = nI (5 * cn) := by rw [show (5 : Int32) = nI 5 from rfl, pk_mul]
  have e1 : nI (5 * cn) + 1 = nI (5 * cn + 1) := nI_1 _
  have e2 : nI (5 * cn) + 2 = nI (5 * cn + 2) := nI_add _ 2
  have e3 : nI (5 * cn) + 3 = nI (5 * cn + 3) := nI_add _ 3
  have e4 : nI (5 * cn) + 4 = nI (5 * cn + 4) := nI_add _ 4
  rw [n6, n7, e0, e0', e1, e2, e3, e4, nI_1]
  by_cases hc : cn = 16
  · refine br_f (fun q => ?_) (br_p (by rw [hc]; rfl) ⟨rfl, h'⟩)
    rw [hc] at q
    exact absurd q (by decide)
  · refine br_t ((nI_ltI (b := 16) (by omega) (by decide)).mpr (by omega)) ⟨vp_in_nI (by omega) (by decide), vp_in_nI (by omega) (by decide), vp_in_nI (by omega) (by decide), vp_in_nI (by omega) (by decide), vp_in_nI (by omega) (by decide), ?_⟩
    refine br_n (fun q => hc ((nI_eq (b := 16) (by omega) (by decide)).mp q)) ⟨vp_in_nI (by omega) (by decide), vp_in_nI (by omega) (by decide), vp_in_nI (by omega) (by decide), vp_in_nI (by omega) (by decide), vp_in_nI (by omega) (by decide), rfl, ?_⟩
    rw [ck (by omega), ck (by omega), ck (by omega), ck (by omega), ck (by omega)]
    refine ⟨⟨id, R, T, Sh, cn + 1, bc, ⟨by omega, by omega, by omega⟩, ⟨n1, n2, n3, n4, n5, rfl, rfl, by omega, n9, n10, n11, n12, n13⟩, ?_, hP, hS, hB⟩, hr⟩
    intro j hj
    simp only [csl_si, csl_scu, msl_si, msl_sa, va_up, upd, if_true]
    split
    · rfl
    · split
      · rfl
      · split
        · rfl
        · split
          · rfl
          · split
            · rfl
            · exact hL j (by omega)
theorem w2share {j m : Nat} {M : mS} {K : Int32 → mS → Prop} (hj : j < 8) (hm : m < 8) (k : K 0 ((((((((M.si 23 0).si 19 0).si 20 0).sa 4 m (M.ia 4 j)).sa 5 m (M.ia 5 j)).si 18 0).si 19 0).si 20 0)) : wp_X2_share (nI j) (nI m) M K := by
  unfold wp_X2_share
  refine w2beg (w2sp1 hj (br_f (by decide) (w2sp1 hm (br_n (by decide) ⟨vp_in_nI hj (by decide), vp_in_nI hj (by decide), vp_in_nI hm (by decide), vp_in_nI hm (by decide), w2told (by decide) (by decide) ?_⟩))))
  rw [ck (by omega), ck (by omega)]
  exact k
theorem sim_share {i : Nat} {C : cS} {M : mS} (h : Rel i C M) (p0 p1 : Int32) : wp_X1_share p0 p1 C (fun r1 C' => wp_X2_share p0 p1 M (fun r2 M' => r1 = r2 ∧ Rel (i + 1) C' M')) := by
  have h6 := rel_tell (r := 6) (w := 0) (a := 0) (M' := (((((M.si 23 0).si 19 0).si 20 0).si 18 6).si 19 0).si 20 0) (rel0_up (Nat.le_succ i) h.1) ⟨rfl, rfl⟩ ⟨rfl, rfl, rfl, rfl, rfl, rfl, rfl, rfl, rfl⟩ rfl rfl rfl
  unfold wp_X1_share
  rcases spc p0 with hb | ⟨j, hj, rfl⟩
  · exact w1sp0 hb (br_t rfl (w1set (w2beg (w2sp0 hb (br_t rfl (w2told (by decide) (by decide) ⟨rfl, h6⟩))))))
  rcases spc p1 with hb | ⟨m, hm, rfl⟩
  · exact w1sp1 hj (br_f (by decide) (w1sp0 hb (br_p rfl (w1set (w2beg (w2sp1 hj (br_f (by decide) (w2sp0 hb (br_p rfl (w2told (by decide) (by decide) ⟨rfl, h6⟩))))))))))
  refine w1sp1 hj (br_f (by decide) (w1sp1 hm (br_n (by decide) ⟨vp_in_nI hj (by decide), ?_⟩)))
  obtain ⟨⟨id, R, T, Sh, cn, bc, hi, hN, hL, hP, hS, hB⟩, hr⟩ := h
  have key : ∀ r : Option Nat, C.sp j = r → Rel (i + 1) ((((C.ssp m r).si 7 0).si 8 0).si 9 0) ((((((((M.si 23 0).si 19 0).si 20 0).sa 4 m (M.ia 4 j)).sa 5 m (M.ia 5 j)).si 18 0).si 19 0).si 20 0) := by
    intro r er
    refine rel_tell (rel0_up (Nat.le_succ i) (M := ((M.sa 4 m (M.ia 4 j)).sa 5 m (M.ia 5 j))) ⟨id, R, T, Sh, cn, bc, hi, hN, hL, hP, ?_, hB⟩) ⟨rfl, rfl⟩ ⟨rfl, rfl, rfl, rfl, rfl, rfl, rfl, rfl, rfl⟩ rfl rfl rfl
    intro x hx
    by_cases e : x = m
    · subst e
      have := hS j hj
      rw [er] at this
      simpa [csl_ssp, msl_sa, va_up, upd] using this
    · have := hS x hx
      simpa [csl_ssp, msl_sa, va_up, upd, e] using this
  rw [ck (by omega), ck (by omega)]
  refine ⟨fun e => ⟨vp_in_nI hm (by decide), w1set (w2share hj hm ⟨rfl, key none e⟩)⟩, fun y e => ⟨?_, vp_in_nI hm (by decide), w1set (w2share hj hm ⟨rfl, key (some y) e⟩)⟩⟩
  rcases hS j hj with q | ⟨a, q, hl, -⟩
  · rw [q.1] at e; cases e
  · rw [q] at e; cases e; exact hl
end Ops2
