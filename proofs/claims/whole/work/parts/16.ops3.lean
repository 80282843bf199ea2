section Ops3
theorem w2tag {j T : Nat} {p1 : Int32} {M : mS} {K : Int32 → mS → Prop} (hj : j < 8) (hT : M.fi 7 = nI T) (hT5 : T < 513) (k : K 0 (((((((((M.si 23 0).si 19 0).si 20 0).sa 6 T p1).sa 4 j 2).sa 5 j (nI T)).si 7 (nI (T + 1))).si 18 0).si 19 0 |>.si 20 0)) : wp_X2_tag (nI j) p1 M K := by
  unfold wp_X2_tag
  refine w2beg (w2sp1 hj (br_n (by decide) ?_))
  show vp_in (M.fi 7) 513 ∧ wp_X2_lay (nI j) 2 (M.fi 7) ((((M.si 23 0).si 19 0).si 20 0).sa 6 (M.fi 7).toNatClampNeg p1) _
  rw [hT, ck (by omega)]
  refine ⟨vp_in_nI hT5 (by decide), vp_in_nI hj (by decide), vp_in_nI hj (by decide), ?_⟩
  rw [ck (by omega)]
  show wp_X2_told 0 (((((((M.si 23 0).si 19 0).si 20 0).sa 6 T p1).sa 4 j 2).sa 5 j (nI T)).si 7 (M.fi 7 + 1)) _
  rw [hT, nI_1]
  exact w2told (by decide) (by decide) k
theorem sim_tag {i : Nat} {C : cS} {M : mS} (h : Rel i C M) (hi5 : i < 512) (p0 p1 : Int32) : wp_X1_tag p0 p1 C (fun r1 C' => wp_X2_tag p0 p1 M (fun r2 M' => r1 = r2 ∧ Rel (i + 1) C' M')) := by
  have h6 := rel_tell (r := 6) (w := 0) (a := 0) (M' := (((((M.si 23 0).si 19 0).si 20 0).si 18 6).si 19 0).si 20 0) (rel0_up (Nat.le_succ i) h.1) ⟨rfl, rfl⟩ ⟨rfl, rfl, rfl, rfl, rfl, rfl, rfl, rfl, rfl⟩ rfl rfl rfl
  unfold wp_X1_tag
  rcases spc p0 with hb | ⟨j, hj, rfl⟩
  · exact w1sp0 hb (br_p rfl (w1set (w2beg (w2sp0 hb (br_p rfl (w2told (by decide) (by decide) ⟨rfl, h6⟩))))))
  obtain ⟨⟨id, R, T, Sh, cn, bc, ⟨i1, i2, i3⟩, ⟨n1, n2, n3, n4, n5, n6, n7, n8, n9, n10, n11, n12, n13⟩, hL, hP, hS, hB⟩, hr⟩ := h
  refine w1sp1 hj (br_n (by decide) (fun q hq => ⟨by decide, by decide, fun b hb => ⟨ldq_new hb, ldq_new hb, vp_in_nI hj (by decide), w1set (w2tag hj n3 (by omega) ⟨rfl, ?_⟩)⟩⟩))
  rw [ck (by omega)]
  have hP' := pool_new (s := 8) (n := 0) (k := T) (nv := p1) (f := fun _ => 0) (R' := R) (T' := T + 1) (st' := M.ia 1) (sz' := M.ia 2) (tg' := upd (M.ia 6) T p1) (ce' := M.la 3) hP hq hb (Nat.le_refl _) (Nat.le_succ _) (fun _ _ => ⟨rfl, rfl⟩) (fun t ht => pk_un (by omega)) (fun _ _ => rfl) (by decide) (by decide) (fun _ => ⟨rfl, rfl, Nat.lt_succ_self _, pk_us⟩) (fun e => absurd e (by decide))
  have hS' := spn_new (m := j) (s := 8) (k := T) (x := 2) hS hq hb (by decide) ⟨fun _ => rfl, fun e => absurd e (by decide)⟩
  have hB' := bin_new (k := T) (n := 0) (sv := nI 8) hP hB hq hb
  refine rel_tell (M := ((((M.sa 6 T p1).sa 4 j 2).sa 5 j (nI T)).si 7 (nI (T + 1)))) ⟨va_up id q T, R, T + 1, Sh, cn, bc, ⟨by omega, by omega, by omega⟩, ⟨n1, n2, rfl, n4, n5, n6, n7, n8, n9, n10, n11, n12, n13⟩, hL, hP', hS', hB'⟩ ⟨rfl, rfl⟩ ⟨rfl, rfl, rfl, rfl, rfl, rfl, rfl, rfl, rfl⟩ rfl rfl rfl
end Ops3
