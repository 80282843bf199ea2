section Ops5
theorem rel_6 {i : Nat} {C : cS} {M : mS} (h : Rel i C M) {c : Int32} : Rel (i + 1) (((C.si 7 c).si 8 0).si 9 0) ((((((M.si 23 0).si 19 0).si 20 0).si 18 c).si 19 0).si 20 0) :=
  rel_tell (rel0_up (Nat.le_succ i) h.1) ⟨rfl, rfl⟩ ⟨rfl, rfl, rfl, rfl, rfl, rfl, rfl, rfl, rfl⟩ rfl rfl rfl
theorem w2thread {j R s n : Nat} {M : mS} {K : Int32 → mS → Prop} (hj : j < 8) (hs : s < 8) (hn : n ≤ 24) (hR : M.fi 3 = nI R) (hR5 : R < 513)
    (k : K 0 (((((((((((M.si 23 0).si 19 0).si 20 0).sa 1 R (nI s)).sa 2 R (nI n)).stl 3 (fl (M.la 3) (24 * R) n (blk s))).si 3 (nI (R + 1))).sa 4 j 1).sa 5 j (nI R)).si 18 0).si 19 0 |>.si 20 0)) : wp_X2_thread (nI j) (nI s) (nI n) M K := by
  unfold wp_X2_thread
  refine w2beg (w2sp1 hj (br_f (by decide) (br_f (nI_pos (by omega)) (br_f (fun q => nI_ge (a := s) (b := 8) hs (by decide) (sp7.mp q)) (br_f (nI_pos (by omega)) (br_t (nI_le (b := 24) hn (by decide)) ?_))))))
  refine w2newReel (S := ((M.si 23 0).si 19 0).si 20 0) hR hR5 (by omega) hn ⟨vp_in_nI hj (by decide), vp_in_nI hj (by decide), w2told (by decide) (by decide) ?_⟩
  rw [ck (by omega)]
  exact k
theorem sim_thread {i : Nat} {C : cS} {M : mS} (h : Rel i C M) (hi5 : i < 512) (p0 p1 p2 : Int32) : wp_X1_thread p0 p1 p2 C (fun r1 C' => wp_X2_thread p0 p1 p2 M (fun r2 M' => r1 = r2 ∧ Rel (i + 1) C' M')) := by
  have h6 := rel_6 h (c := 6)
  unfold wp_X1_thread
  rcases spc p0 with hb | ⟨j, hj, rfl⟩
  · exact w1sp0 hb (br_t rfl (w1set (w2beg (w2sp0 hb (br_t rfl (w2told (by decide) (by decide) ⟨rfl, h6⟩))))))
  refine w1sp1 hj (br_f (by decide) ?_)
  by_cases c1 : p1 < 0
  · exact br_t c1 (w1set (w2beg (w2sp1 hj (br_f (by decide) (br_t c1 (w2told (by decide) (by decide) ⟨rfl, h6⟩))))))
  refine br_f c1 ?_
  by_cases c2 : (7 : Int32) < p1
  · exact br_t c2 (w1set (w2beg (w2sp1 hj (br_f (by decide) (br_f c1 (br_t c2 (w2told (by decide) (by decide) ⟨rfl, h6⟩)))))))
  refine br_f c2 ?_
  by_cases c3 : p2 < 0
  · exact br_t c3 (w1set (w2beg (w2sp1 hj (br_f (by decide) (br_f c1 (br_f c2 (br_t c3 (w2told (by decide) (by decide) ⟨rfl, h6⟩))))))))
  refine br_f c3 ?_
  by_cases c4 : ¬ p2 ≤ (24 : Int32)
  · exact br_f c4 (w1set (w2beg (w2sp1 hj (br_f (by decide) (br_f c1 (br_f c2 (br_f c3 (br_f c4 (w2told (by decide) (by decide) ⟨rfl, h6⟩)))))))))
  have c4 := Classical.not_not.mp c4
  refine br_t c4 ?_
  obtain ⟨s, hs, rfl⟩ : ∃ s, s < 8 ∧ p1 = nI s := by
    rcases spc p1 with z | z
    · exact absurd z (by rintro (z | z); exact c1 z; exact c2 (sp7.mpr z))
    · exact z
  obtain ⟨n, hn, rfl⟩ := nI_of2 (M := 24) (n := 24) (by decide) c3 c4
  obtain ⟨⟨id, R, T, Sh, cn, bc, ⟨i1, i2, i3⟩, ⟨n1, n2, n3, n4, n5, n6, n7, n8, n9, n10, n11, n12, n13⟩, hL, hP, hS, hB⟩, hr⟩ := h
  intro q hq
  refine ⟨c3, by rw [ck (by omega)]; exact hn, fun b hb => ⟨ldq_new hb, ldq_new hb, vp_in_nI hj (by decide), w1set (w2thread hj hs hn n2 (by omega) ⟨rfl, ?_⟩)⟩⟩
  rw [ck (by omega), ck (by omega)]
  have hP' := pool_new (s := s) (n := n) (k := R) (nv := nI n) (f := fun _ => 0) (R' := R + 1) (T' := T) (st' := upd (M.ia 1) R (nI s)) (sz' := upd (M.ia 2) R (nI n)) (tg' := M.ia 6) (ce' := fl (M.la 3) (24 * R) n (blk s)) hP hq hb (Nat.le_succ _) (Nat.le_refl _) (fun r hr => ⟨pk_un (by omega), pk_un (by omega)⟩) (fun _ _ => rfl) (fun x hx => if_neg (by omega)) hn (by omega) (fun e => absurd e (by omega)) (fun _ => ⟨rfl, rfl, Nat.lt_succ_self _, pk_us, pk_us, fun j' hj' => by
    rw [show fl (M.la 3) (24 * R) n (blk s) (24 * R + j') = blk s from if_pos (by omega)]
    exact ⟨fun h5 => (if_pos h5).symm, fun h5 => Or.inl ⟨rfl, if_neg (by omega)⟩⟩⟩)
  have hS' := spn_new (m := j) (s := s) (k := R) (x := 1) hS hq hb (by omega) ⟨fun e => absurd e (by omega), fun _ => rfl⟩
  have hB' := bin_new (k := R) (n := n) (sv := nI s) hP hB hq hb
  have n1' : C.fi 10 + 1 = nI (R + 1) := by rw [n1, nI_1]
  refine rel_tell (C := (((((((C.nl q).na b n (fun _ => 0)).slo q (nI s)).sln q (nI n)).slf q (some b)).ssp j (some q)).si 10 (C.fi 10 + 1))) (M := ((((((M.sa 1 R (nI s)).sa 2 R (nI n)).stl 3 (fl (M.la 3) (24 * R) n (blk s))).si 3 (nI (R + 1))).sa 4 j 1).sa 5 j (nI R))) ⟨va_up id q R, R + 1, T, Sh, cn, bc, ⟨by omega, by omega, by omega⟩, ⟨n1', rfl, n3, n4, n5, n6, n7, n8, n9, n10, n11, n12, n13⟩, hL, hP', hS', hB'⟩ ⟨rfl, rfl⟩ ⟨rfl, rfl, rfl, rfl, rfl, rfl, rfl, rfl, rfl⟩ rfl rfl rfl
end Ops5
