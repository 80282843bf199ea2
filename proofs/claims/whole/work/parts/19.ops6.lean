section Ops6
abbrev PoolC (C : cS) (M : mS) (id : Nat → Nat) (R T Sh : Nat) : Prop := Pool C.L C.kd C.so C.nu C.fr C.ln C.ar (M.ia 1) (M.ia 2) (M.ia 6) (M.ia 7) (M.ia 8) (M.la 3) id R T Sh
abbrev lRC (C : cS) (M : mS) (id : Nat → Nat) (R T Sh a b n s : Nat) : Prop := lR C.L C.kd C.so C.nu C.fr C.ln C.ar (M.ia 1) (M.ia 2) (M.ia 6) (M.ia 7) (M.ia 8) (M.la 3) id R T Sh a b n s
theorem spCase {C : cS} {M : mS} {id : Nat → Nat} {R T Sh : Nat} (hP : PoolC C M id R T Sh) (hS : Spn C.sp C.L C.kd C.so (M.ia 4) (M.ia 5) id) (p : Int32) :
    (p < 0 ∨ (8 : Int32) ≤ p) ∨ (∃ j, j < 8 ∧ p = nI j ∧ C.sp j = none ∧ M.ia 4 j = 0) ∨ (∃ j a b n, j < 8 ∧ p = nI j ∧ C.sp j = some a ∧ C.ld a ∧ C.so a = 8 ∧ M.ia 4 j = 2 ∧ M.ia 5 j = nI (id a) ∧ lRC C M id R T Sh a b n 8) ∨
    (∃ j a b n s, j < 8 ∧ p = nI j ∧ C.sp j = some a ∧ C.ld a ∧ ¬ C.so a = 8 ∧ M.ia 4 j = 1 ∧ M.ia 5 j = nI (id a) ∧ s < 8 ∧ lRC C M id R T Sh a b n s) := by
  rcases spc p with h | ⟨j, hj, rfl⟩
  · exact Or.inl h
  rcases hS j hj with ⟨h1, h2⟩ | ⟨a, h1, h2, h3, h4, h5⟩
  · exact Or.inr (Or.inl ⟨j, hj, rfl, h1, h2⟩)
  obtain ⟨b, n, s, hl⟩ := hP.1 a h2
  have hl2 := hl
  obtain ⟨l1, l2, l3, l4, l5, l6, l7, l8⟩ := hl2
  by_cases e : C.so a = 8
  · have e8 : s = 8 := by
      rw [l6] at e
      exact (nI_eq (b := 8) (by omega) (by decide)).mp e
    subst e8
    exact Or.inr (Or.inr (Or.inl ⟨j, a, b, n, hj, rfl, h1, h2, e, h4 e, h3, hl⟩))
  · have e8 : s < 8 := by
      have : ¬ s = 8 := fun q => e (by rw [l6, q]; rfl)
      omega
    exact Or.inr (Or.inr (Or.inr ⟨j, a, b, n, s, hj, rfl, h1, h2, e, h5 e, h3, e8, hl⟩))
theorem wl_copy {S : mS} {K : Int32 → mS → Prop} {j m f R n : Nat} {g : Nat → Int64} (hf : f < R) (hR : R < 513) (hn : n ≤ 24) (hsz : S.ia 2 f = nI n) (hm : m < 8)
    (k : K 0 ((((((S.stl 3 (va_cpy g g (24 * f) (24 * R) n)).sa 4 m 1).sa 5 m (nI R)).si 18 0).si 19 0).si 20 0)) : ∀ t c, c + t = n → wl_X2_copy_68 K (t + 1) (nI j) (nI m) 0 (nI f) (nI R) (nI c) (S.stl 3 (va_cpy g g (24 * f) (24 * R) c)) := by
  intro t
  induction t with
  | zero =>
    intro c hc
    have hc : c = n := by omega
    subst hc
    rw [wl_X2_copy_68, ck (by omega)]
    refine ⟨vp_in_nI (by omega) (by decide), br_t ?_ ⟨vp_in_nI hm (by decide), vp_in_nI hm (by decide), ?_⟩⟩
    · show S.ia 2 f ≤ nI c
      rw [hsz]
      exact nI_le (Nat.le_refl _) (by omega)
    · rw [ck (by omega)]
      exact w2told (by decide) (by decide) k
  | succ t ih =>
    intro c hc
    rw [wl_X2_copy_68, ck (by omega), e24, e24, ck (by omega), ck (by omega), nI_1, stl_sl, stl_la]
    refine ⟨vp_in_nI (by omega) (by decide), br_f ?_ ⟨vp_in_nI (by omega) (by decide), vp_in_nI (by omega) (by decide), ?_⟩⟩
    · show ¬ S.ia 2 f ≤ nI c
      rw [hsz]
      exact nI_ge (a := c) (b := n) (by omega) (by omega)
    · have ih' := ih (c + 1) (by omega)
      rw [← cpy_s] at ih'
      rw [pk_cpy_out (j := 24 * f + c) (by omega)]
      exact ih'
theorem w2copy {j m f R s n : Nat} {M : mS} {K : Int32 → mS → Prop} (hj : j < 8) (hm : m < 8) (hs : s < 8) (hn : n ≤ 24) (hR : M.fi 3 = nI R) (hR5 : R < 513) (hf : f < R) (h4 : M.ia 4 j = 1) (h5 : M.ia 5 j = nI f) (h1 : M.ia 1 f = nI s) (h2 : M.ia 2 f = nI n)
    (k : K 0 (((((((((((M.si 23 0).si 19 0).si 20 0).sa 1 R (nI s)).sa 2 R (nI n)).si 3 (nI (R + 1))).stl 3 (va_cpy (fl (M.la 3) (24 * R) n (blk s)) (fl (M.la 3) (24 * R) n (blk s)) (24 * f) (24 * R) n)).sa 4 m 1).sa 5 m (nI R)).si 18 0).si 19 0 |>.si 20 0)) : wp_X2_copy (nI j) (nI m) M K := by
  unfold wp_X2_copy
  refine w2beg (w2sp1 hm (br_f (by decide) (w2nr0 hj h4 (br_t (by decide) ?_))))
  rw [ck (by omega)]
  show vp_in (nI j) 8 ∧ vp_in (M.ia 5 j) 513 ∧ vp_in (M.ia 5 j) 513 ∧ wp_X2_newReel (M.ia 1 (M.ia 5 j).toNatClampNeg) (M.ia 2 (M.ia 5 j).toNatClampNeg) (((M.si 23 0).si 19 0).si 20 0) (fun r14 S15 => ∃ n68, wl_X2_copy_68 K n68 (nI j) (nI m) 0 (M.ia 5 j) r14 0 S15)
  rw [h5, ck (by omega), h1, h2]
  refine ⟨vp_in_nI hj (by decide), vp_in_nI (by omega) (by decide), vp_in_nI (by omega) (by decide), w2newReel (S := ((M.si 23 0).si 19 0).si 20 0) hR hR5 (by omega) hn ⟨n + 1, ?_⟩⟩
  have hsz : (((((((M.si 23 0).si 19 0).si 20 0).sa 1 R (nI s)).sa 2 R (nI n)).si 3 (nI (R + 1)))).ia 2 f = nI n := by
    show upd (M.ia 2) R (nI n) f = nI n
    rw [pk_un (by omega), h2]
  have := wl_copy (S := ((((((M.si 23 0).si 19 0).si 20 0).sa 1 R (nI s)).sa 2 R (nI n)).si 3 (nI (R + 1)))) (K := K) (j := j) (m := m) (f := f) (R := R) (n := n) (g := fl (M.la 3) (24 * R) n (blk s)) hf hR5 hn hsz hm k n 0 (by omega)
  rw [cpy_0] at this
  exact this
theorem sim_copy {i : Nat} {C : cS} {M : mS} (h : Rel i C M) (hi5 : i < 512) (p0 p1 : Int32) : wp_X1_copy p0 p1 C (fun r1 C' => wp_X2_copy p0 p1 M (fun r2 M' => r1 = r2 ∧ Rel (i + 1) C' M')) := by
  have h6 : ∀ {c : Int32}, Rel (i + 1) (((C.si 7 c).si 8 0).si 9 0) ((((((M.si 23 0).si 19 0).si 20 0).si 18 c).si 19 0).si 20 0) := rel_6 h
  unfold wp_X1_copy
  rcases spc p1 with hb | ⟨m, hm, rfl⟩
  · exact w1sp0 hb (br_t rfl (w1set (w2beg (w2sp0 hb (br_t rfl (w2told (by decide) (by decide) ⟨rfl, h6⟩))))))
  refine w1sp1 hm (br_f (by decide) ?_)
  obtain ⟨⟨id, R, T, Sh, cn, bc, ⟨i1, i2, i3⟩, ⟨n1, n2, n3, n4, n5, n6, n7, n8, n9, n10, n11, n12, n13⟩, hL, hP, hS, hB⟩, hr⟩ := h
  rcases spCase hP hS p0 with hb | ⟨j, hj, rfl, h1, h2⟩ | ⟨j, a, b, n, hj, rfl, h1, h2, h3, h4, h5, hl⟩ | ⟨j, a, b, n, s, hj, rfl, h1, h2, h3, h4, h5, hs, hl⟩
  · exact w1rr6 hb (br_f (by decide) (w1set (w2beg (w2sp1 hm (br_f (by decide) (w2nr6 hb (br_f (by decide) (w2told (by decide) (by decide) ⟨rfl, h6⟩))))))))
  · exact w1rr1 hj h1 (br_f (by decide) (w1set (w2beg (w2sp1 hm (br_f (by decide) (w2nr1 hj h2 (br_f (by decide) (w2told (by decide) (by decide) ⟨rfl, h6⟩))))))))
  · exact w1rr2 hj h1 h2 h3 (br_f (by decide) (w1set (w2beg (w2sp1 hm (br_f (by decide) (w2nr2 hj h4 (br_f (by decide) (w2told (by decide) (by decide) ⟨rfl, h6⟩))))))))
  have hl2 := hl
  obtain ⟨l1, l2, l3, l4, l5, l6, l7, l8⟩ := hl2
  obtain ⟨k1, k2, k3, k4, k5⟩ := l8 hs
  refine w1rr0 hj h1 h2 h3 (br_t rfl ⟨vp_in_nI hj (by decide), ?_⟩)
  rw [ck (by omega), ck (by omega)]
  refine ⟨fun e => (by rw [h1] at e; cases e), fun y e => ?_⟩
  have ey : y = a := by rw [h1] at e; cases e; rfl
  subst ey
  intro q hq
  have eq : y ≠ q := fun e => hq (e ▸ h2.1)
  have hbq : b ≠ q := fun e => hq (e ▸ l2.1)
  have hld : (C.nl q).ld y := ⟨List.mem_append_left _ h2.1, (up_n _ _ eq).trans h2.2⟩
  refine ⟨hld, hld, hld, b, (up_n _ _ eq).trans l1, ⟨List.mem_append_left _ l2.1, (up_n _ _ hbq).trans l2.2⟩, by show C.ln b ≤ 24; omega, fun b' hb' => ⟨ldq_new hb', ldq_new hb', vp_in_nI hm (by decide), w1set (w2copy hj hm hs l4 n2 (by omega) k2 h4 h5 k3 k4 ⟨rfl, ?_⟩)⟩⟩
  have eso : (C.nl q).so y = nI s := (up_n _ _ eq).trans l6
  have enu : (C.nl q).nu y = nI n := (up_n _ _ eq).trans k1
  have eln : (C.nl q).ln b = n := l3
  have ear : (C.nl q).ar b = C.ar b := rfl
  rw [eso, enu, eln, ear]
  have hP' := pool_new (s := s) (n := n) (k := R) (nv := nI n) (f := C.ar b) (R' := R + 1) (T' := T) (st' := upd (M.ia 1) R (nI s)) (sz' := upd (M.ia 2) R (nI n)) (tg' := M.ia 6) (ce' := va_cpy (fl (M.la 3) (24 * R) n (blk s)) (fl (M.la 3) (24 * R) n (blk s)) (24 * id y) (24 * R) n) hP hq hb' (Nat.le_succ _) (Nat.le_refl _) (fun r hr => ⟨pk_un (by omega), pk_un (by omega)⟩) (fun _ _ => rfl) (fun x hx => by rw [pk_cpy_out (by omega)]; exact if_neg (by omega)) l4 (by omega) (fun e => absurd e (by omega)) (fun _ => ⟨rfl, rfl, Nat.lt_succ_self _, pk_us, pk_us, fun j' hj' => by
    rw [pk_cpy_in (by omega) (by omega), show 24 * id y + (24 * R + j' - 24 * R) = 24 * id y + j' by omega, show fl (M.la 3) (24 * R) n (blk s) (24 * id y + j') = M.la 3 (24 * id y + j') from if_neg (by omega)]
    exact k5 j' hj'⟩)
  have hS' := spn_new (m := m) (s := s) (k := R) (x := 1) hS hq hb' (by omega) ⟨fun e => absurd e (by omega), fun _ => rfl⟩
  have hB' := bin_new (k := R) (n := n) (sv := nI s) hP hB hq hb'
  have n1' : C.fi 10 + 1 = nI (R + 1) := by rw [n1, nI_1]
  refine rel_tell (C := (((((((C.nl q).na b' n (C.ar b)).slo q (nI s)).sln q (nI n)).slf q (some b')).ssp m (some q)).si 10 (C.fi 10 + 1))) (M := ((((((M.sa 1 R (nI s)).sa 2 R (nI n)).si 3 (nI (R + 1))).stl 3 (va_cpy (fl (M.la 3) (24 * R) n (blk s)) (fl (M.la 3) (24 * R) n (blk s)) (24 * id y) (24 * R) n)).sa 4 m 1).sa 5 m (nI R))) ⟨va_up id q R, R + 1, T, Sh, cn, bc, ⟨by omega, by omega, by omega⟩, ⟨n1', rfl, n3, n4, n5, n6, n7, n8, n9, n10, n11, n12, n13⟩, hL, hP', hS', hB'⟩ ⟨rfl, rfl⟩ ⟨rfl, rfl, rfl, rfl, rfl, rfl, rfl, rfl, rfl⟩ rfl rfl rfl
end Ops6
