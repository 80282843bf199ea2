section Ops12
theorem nsub {a b c : Nat} (h : b + c ≤ a) : nI a - nI b - nI c = nI (a - b - c) := by rw [pk_sub (by omega), pk_sub (by omega)]
theorem gap_nat {p1 p2 : Int32} {n : Nat} (hn : n ≤ 24) (h : wv p1 0 p2 (nI n) (nI n) = 0) : ∃ t m, p1 = nI t ∧ p2 = nI m ∧ t + m ≤ n := by
  obtain ⟨t, m, q, e1, e2, e3, e4, -⟩ := wv_0 hn ⟨by decide, by decide⟩ h
  exact ⟨t, m, e1, e2, e4⟩
theorem sim_open {i : Nat} {C : cS} {M : mS} (h : Rel i C M) (hi5 : i < 512) (p0 p1 p2 : Int32) : wp_X1_open p0 p1 p2 C (fun r1 C' => wp_X2_open p0 p1 p2 M (fun r2 M' => r1 = r2 ∧ Rel (i + 1) C' M')) := by
  have h6 : ∀ {c : Int32}, Rel (i + 1) (((C.si 7 c).si 8 0).si 9 0) ((((((M.si 23 0).si 19 0).si 20 0).si 18 c).si 19 0).si 20 0) := rel_6 h
  have h4' : ∀ {w : Int32}, Rel (i + 1) (((C.si 7 4).si 8 w).si 9 0) ((((((M.si 23 0).si 19 0).si 20 0).si 19 w).si 18 4).si 20 0) := rel_tell (rel0_up (Nat.le_succ i) h.1) ⟨rfl, rfl⟩ ⟨rfl, rfl, rfl, rfl, rfl, rfl, rfl, rfl, rfl⟩ rfl rfl rfl
  unfold wp_X1_open
  obtain ⟨⟨id, R, T, Sh, cn, bc, ⟨i1, i2, i3⟩, ⟨n1, n2, n3, n4, n5, n6, n7, n8, n9, n10, n11, n12, n13⟩, hL, hP, hS, hB⟩, hr⟩ := h
  rcases spCase hP hS p0 with hb | ⟨j, hj, rfl, h1, h2⟩ | ⟨j, a, b, n, hj, rfl, h1, h2, h3, h4, h5, hl⟩ | ⟨j, a, b, n, s, hj, rfl, h1, h2, h3, h4, h5, hs, hl⟩
  · exact w1gap6 hb (br_f (by decide) (w2gap6 hb (br_f (by decide) (w2told (by decide) (by decide) ⟨rfl, h6⟩))))
  · exact w1gap1 hj h1 (br_f (by decide) (w2gap1 hj h2 (br_f (by decide) (w2told (by decide) (by decide) ⟨rfl, h6⟩))))
  · exact w1gap2 hj h1 h2 h3 (br_f (by decide) (w2gap2 hj h4 (br_f (by decide) (w2told (by decide) (by decide) ⟨rfl, h6⟩))))
  have hl2 := hl
  obtain ⟨l1, l2, l3, l4, l5, l6, l7, l8⟩ := hl2
  obtain ⟨k1, k2, k3, k4, k5⟩ := l8 hs
  refine w1gap hj h1 h2 h3 l1 l2 l3 (fun c => ?_) (fun c => ?_)
  · exact br_f (by decide) (w2gap (S := M.si 23 0) hj h4 h5 (by omega) k4 l4 (fun _ => br_f (by decide) (w2told4 ⟨rfl, h4'⟩)) (fun c' => absurd c' c))
  · obtain ⟨t, m, rfl, rfl, htm⟩ := gap_nat l4 c
    refine br_t rfl ⟨vp_in_nI hj (by decide), ?_⟩
    rw [ck (by omega)]
    refine ⟨fun e => absurd (e.symm.trans h1) (by simp), fun y e => ?_⟩
    have ey : y = a := Option.some.inj (e.symm.trans h1)
    subst ey
    have l3' : (((C.si 7 0).si 8 0).si 9 0).ln b = n := l3
    refine ⟨h2, b, l1, ?_⟩
    rw [l3', nsub htm, nI_add, ck (by omega), ck (by omega), ck (by omega)]
    refine ⟨l2, l2, l2, nI_pos (by omega), nI_pos (by omega), nI_pos (by omega), by omega, by omega, w1blank l2 (show t + m ≤ C.ln b by omega) (show C.ln b ≤ 24 by omega) (by omega) (w1emp (w2open hj h4 h5 (by omega) k3 hs k4 l4 htm c ⟨rfl, ?_⟩))⟩
    have hP' := pool_upd (g := fl (va_cpy (C.ar b) (C.ar b) t (t + m) (n - t - m)) t m 0) (ce' := fl (va_cpy (M.la 3) (M.la 3) (24 * id y + t) (24 * id y + t + m) (n - t - m)) (24 * id y + t) m (blk s)) hP h2 hl hs (fun j' hj' => by
      by_cases e1 : t ≤ j' ∧ j' < t + m
      · rw [show fl (va_cpy (C.ar b) (C.ar b) t (t + m) (n - t - m)) t m 0 j' = 0 from if_pos e1, show fl (va_cpy (M.la 3) (M.la 3) (24 * id y + t) (24 * id y + t + m) (n - t - m)) (24 * id y + t) m (blk s) (24 * id y + j') = blk s from if_pos (by omega)]
        exact ⟨fun q => (if_pos q).symm, fun q => Or.inl ⟨rfl, if_neg (by omega)⟩⟩
      · rw [show fl (va_cpy (C.ar b) (C.ar b) t (t + m) (n - t - m)) t m 0 j' = va_cpy (C.ar b) (C.ar b) t (t + m) (n - t - m) j' from if_neg e1, show fl (va_cpy (M.la 3) (M.la 3) (24 * id y + t) (24 * id y + t + m) (n - t - m)) (24 * id y + t) m (blk s) (24 * id y + j') = va_cpy (M.la 3) (M.la 3) (24 * id y + t) (24 * id y + t + m) (n - t - m) (24 * id y + j') from if_neg (by omega)]
        by_cases e2 : t + m ≤ j'
        · rw [pk_cpy_in e2 (by omega), pk_cpy_in (by omega) (by omega), show 24 * id y + t + (24 * id y + j' - (24 * id y + t + m)) = 24 * id y + (t + (j' - (t + m))) by omega]
          exact k5 _ (by omega)
        · rw [pk_cpy_out (by omega), pk_cpy_out (by omega)]
          exact k5 j' hj') (fun x hx => by
        rw [show fl (va_cpy (M.la 3) (M.la 3) (24 * id y + t) (24 * id y + t + m) (n - t - m)) (24 * id y + t) m (blk s) x = va_cpy (M.la 3) (M.la 3) (24 * id y + t) (24 * id y + t + m) (n - t - m) x from if_neg (by omega)]
        exact pk_cpy_out (by omega))
    have eC : ((((C.si 7 0).si 8 0).si 9 0).cpp b b t (t + m) (n - t - m)).sar b (fl ((((((C.si 7 0).si 8 0).si 9 0)).cpp b b t (t + m) (n - t - m)).ar b) t (t + m - t) 0) = (((C.si 7 0).si 8 0).si 9 0).sar b (fl (va_cpy (C.ar b) (C.ar b) t (t + m) (n - t - m)) t m 0) := by
      rw [show (((C.si 7 0).si 8 0).si 9 0).cpp b b t (t + m) (n - t - m) = (((C.si 7 0).si 8 0).si 9 0).sar b (va_cpy (C.ar b) (C.ar b) t (t + m) (n - t - m)) from rfl, sar_sar, sar_ar, show t + m - t = m by omega]
    rw [eC]
    have hR0 : Rel0 (i + 1) ((((C.sar b (fl (va_cpy (C.ar b) (C.ar b) t (t + m) (n - t - m)) t m 0)).sbr none).si 5 0).si 6 0) ((M.stl 3 (fl (va_cpy (M.la 3) (M.la 3) (24 * id y + t) (24 * id y + t + m) (n - t - m)) (24 * id y + t) m (blk s))).si 16 0) := ⟨id, R, T, Sh, cn, 0, ⟨by omega, by omega, by omega⟩, ⟨n1, n2, n3, n4, n5, n6, n7, n8, rfl, rfl, by omega, n12, n13⟩, hL, hP', hS, Or.inl ⟨rfl, rfl⟩⟩
    exact ⟨rel0_of hR0 ⟨rfl, rfl, rfl, rfl, rfl, rfl, rfl, rfl, rfl, rfl, rfl⟩ ⟨rfl, rfl, rfl, rfl, rfl, rfl, rfl⟩ ⟨rfl, rfl, rfl, rfl, rfl, rfl, rfl, rfl, rfl, rfl⟩ ⟨rfl, rfl, rfl, rfl, rfl, rfl, rfl, rfl, rfl⟩, rfl, rfl, rfl⟩
theorem wl_fill96 {S : mS} {K : Int32 → mS → Prop} {r s n t m : Nat} {g : Nat → Int64} {v1 v4 : Int32} (hr : r < 512) (h1 : S.ia 1 r = nI s) (hs : s < 8) (hn : n ≤ 24) (htm : t + m ≤ n)
    (k : K (nI (n - t - m)) (((((S.stl 3 (fl g (24 * r + (n - m)) m (blk s))).si 16 0).si 18 0).si 19 0).si 20 0)) : ∀ u c, c + u = m → wl_X2_close_96 K (u + 1) v1 (nI t) (nI m) v4 (nI r) (nI n) (nI (n - m + c)) (S.stl 3 (fl g (24 * r + (n - m)) c (blk s))) := by
  intro u
  induction u with
  | zero =>
    intro c hc
    have hc : c = m := by omega
    subst hc
    rw [wl_X2_close_96]
    refine br_t (nI_le (by omega) (by omega)) (w2told (by decide) (by decide) ?_)
    rw [pk_sub (by omega), pk_sub (by omega)]
    exact k
  | succ u ih =>
    intro c hc
    rw [wl_X2_close_96, ck (by omega), e24, ck (by omega), nI_1, stl_sl, stl_sl]
    refine br_f (nI_ge (a := n - m + c) (b := n) (by omega) (by omega)) ⟨vp_in_nI (by omega) (by decide), ?_⟩
    have g1 : (S.stl 3 (fl g (24 * r + (n - m)) c (blk s))).ia 1 r = nI s := h1
    rw [g1]
    have ih' := ih (c + 1) (by omega)
    rw [← fl_s, Nat.add_assoc, ← Nat.add_assoc (n - m) c 1] at ih'
    refine w2num (by omega) (fun h5 => br_t rfl ⟨vp_in_nI (by omega) (by decide), ?_⟩) (fun h5 => br_f (by decide) ⟨vp_in_nI (by omega) (by decide), ?_⟩)
    · rw [show blk s = -1 from if_neg (by omega)] at ih' ⊢
      exact ih'
    · rw [show blk s = 0 from if_pos h5] at ih' ⊢
      exact ih'
theorem wl_close47 {S : mS} {K : Int32 → mS → Prop} {r s n t m : Nat} {v1 v4 : Int32} (hr : r < 512) (h1 : S.ia 1 r = nI s) (hs : s < 8) (hn : n ≤ 24) (htm : t + m ≤ n)
    (k : K (nI (n - t - m)) (((((S.stl 3 (fl (va_cpy (S.la 3) (S.la 3) (24 * r + t + m) (24 * r + t) (n - t - m)) (24 * r + (n - m)) m (blk s))).si 16 0).si 18 0).si 19 0).si 20 0)) : ∀ u c, c + u = n - t - m → wl_X2_close_47 K (u + 1) v1 (nI t) (nI m) v4 (nI r) (nI n) (nI (t + c)) (S.stl 3 (va_cpy (S.la 3) (S.la 3) (24 * r + t + m) (24 * r + t) c)) := by
  intro u
  induction u with
  | zero =>
    intro c hc
    have hc : c = n - t - m := by omega
    subst hc
    rw [wl_X2_close_47, pk_sub (by omega)]
    refine br_t (nI_le (by omega) (by omega)) ⟨m + 1, ?_⟩
    have := wl_fill96 (S := S) (K := K) (g := va_cpy (S.la 3) (S.la 3) (24 * r + t + m) (24 * r + t) (n - t - m)) (v1 := v1) (v4 := v4) hr h1 hs hn htm k m 0 (by omega)
    rw [fl_0] at this
    exact this
  | succ u ih =>
    intro c hc
    rw [wl_X2_close_47, pk_sub (by omega), e24, nI_add, ck (by omega), ck (by omega), nI_1, stl_sl, stl_la]
    refine br_f (nI_ge (a := t + c) (b := n - m) (by omega) (by omega)) ⟨vp_in_nI (by omega) (by decide), vp_in_nI (by omega) (by decide), ?_⟩
    have ih' := ih (c + 1) (by omega)
    rw [pk_cpy_out (by omega), show 24 * r + (t + c) + m = 24 * r + t + m + c by omega, show 24 * r + (t + c) = 24 * r + t + c by omega, cpy_s, Nat.add_assoc t c 1]
    exact ih'
theorem w2close {j r n s t m : Nat} {M : mS} {K : Int32 → mS → Prop} (hj : j < 8) (h4 : M.ia 4 j = 1) (h5 : M.ia 5 j = nI r) (hr : r < 512) (h1 : M.ia 1 r = nI s) (hs : s < 8) (h2 : M.ia 2 r = nI n) (hn : n ≤ 24) (htm : t + m ≤ n) (hw : wv (nI t) 0 (nI m) (nI n) (nI n) = 0)
    (k : K (nI (n - t - m)) (((((((((M.si 23 0).si 19 0).si 20 0).si 19 0).stl 3 (fl (va_cpy (M.la 3) (M.la 3) (24 * r + t + m) (24 * r + t) (n - t - m)) (24 * r + (n - m)) m (blk s))).si 16 0).si 18 0).si 19 0).si 20 0)) : wp_X2_close (nI j) (nI t) (nI m) M K := by
  unfold wp_X2_close
  refine w2gap (S := M.si 23 0) hj h4 h5 (by omega) h2 hn (fun c => absurd hw c) (fun _ => br_t (by decide) ?_)
  rw [ck (by omega)]
  have g5 : ((((M.si 23 0).si 19 0).si 20 0).si 19 0).ia 5 j = nI r := h5
  have g2 : ((((M.si 23 0).si 19 0).si 20 0).si 19 0).ia 2 r = nI n := h2
  rw [g5, ck (by omega), g2]
  refine ⟨vp_in_nI hj (by decide), vp_in_nI (by omega) (by decide), n - t - m + 1, ?_⟩
  have := wl_close47 (S := (((M.si 23 0).si 19 0).si 20 0).si 19 0) (K := K) (v1 := nI j) (v4 := 0) hr h1 hs hn htm k (n - t - m) 0 (by omega)
  rw [cpy_0, show ((((M.si 23 0).si 19 0).si 20 0).si 19 0).stl 3 (((((M.si 23 0).si 19 0).si 20 0).si 19 0).la 3) = (((M.si 23 0).si 19 0).si 20 0).si 19 0 from stl_self _ _] at this
  exact this
theorem sim_close {i : Nat} {C : cS} {M : mS} (h : Rel i C M) (hi5 : i < 512) (p0 p1 p2 : Int32) : wp_X1_close p0 p1 p2 C (fun r1 C' => wp_X2_close p0 p1 p2 M (fun r2 M' => r1 = r2 ∧ Rel (i + 1) C' M')) := by
  have h6 : ∀ {c : Int32}, Rel (i + 1) (((C.si 7 c).si 8 0).si 9 0) ((((((M.si 23 0).si 19 0).si 20 0).si 18 c).si 19 0).si 20 0) := rel_6 h
  have h4' : ∀ {w : Int32}, Rel (i + 1) (((C.si 7 4).si 8 w).si 9 0) ((((((M.si 23 0).si 19 0).si 20 0).si 19 w).si 18 4).si 20 0) := rel_tell (rel0_up (Nat.le_succ i) h.1) ⟨rfl, rfl⟩ ⟨rfl, rfl, rfl, rfl, rfl, rfl, rfl, rfl, rfl⟩ rfl rfl rfl
  unfold wp_X1_close
  obtain ⟨⟨id, R, T, Sh, cn, bc, ⟨i1, i2, i3⟩, ⟨n1, n2, n3, n4, n5, n6, n7, n8, n9, n10, n11, n12, n13⟩, hL, hP, hS, hB⟩, hr⟩ := h
  rcases spCase hP hS p0 with hb | ⟨j, hj, rfl, h1, h2⟩ | ⟨j, a, b, n, hj, rfl, h1, h2, h3, h4, h5, hl⟩ | ⟨j, a, b, n, s, hj, rfl, h1, h2, h3, h4, h5, hs, hl⟩
  · exact w1gap6 hb (br_f (by decide) (w2gap6 hb (br_f (by decide) (w2told (by decide) (by decide) ⟨rfl, h6⟩))))
  · exact w1gap1 hj h1 (br_f (by decide) (w2gap1 hj h2 (br_f (by decide) (w2told (by decide) (by decide) ⟨rfl, h6⟩))))
  · exact w1gap2 hj h1 h2 h3 (br_f (by decide) (w2gap2 hj h4 (br_f (by decide) (w2told (by decide) (by decide) ⟨rfl, h6⟩))))
  have hl2 := hl
  obtain ⟨l1, l2, l3, l4, l5, l6, l7, l8⟩ := hl2
  obtain ⟨k1, k2, k3, k4, k5⟩ := l8 hs
  refine w1gap hj h1 h2 h3 l1 l2 l3 (fun c => ?_) (fun c => ?_)
  · exact br_f (by decide) (w2gap (S := M.si 23 0) hj h4 h5 (by omega) k4 l4 (fun _ => br_f (by decide) (w2told4 ⟨rfl, h4'⟩)) (fun c' => absurd c' c))
  · obtain ⟨t, m, rfl, rfl, htm⟩ := gap_nat l4 c
    refine br_t rfl ⟨vp_in_nI hj (by decide), ?_⟩
    rw [ck (by omega)]
    refine ⟨fun e => absurd (e.symm.trans h1) (by simp), fun y e => ?_⟩
    have ey : y = a := Option.some.inj (e.symm.trans h1)
    subst ey
    have l3' : (((C.si 7 0).si 8 0).si 9 0).ln b = n := l3
    refine ⟨h2, b, l1, ?_⟩
    rw [l3', nsub htm, nI_add, nI_add, ck (by omega), ck (by omega), ck (by omega)]
    have l3'' : ((((C.si 7 0).si 8 0).si 9 0).cpp b b (t + m) t (n - t - m)).ln b = n := l3
    rw [l3'']
    refine ⟨l2, l2, l2, nI_pos (by omega), nI_pos (by omega), nI_pos (by omega), by omega, by omega, l2, w1blank l2 (show n ≤ C.ln b by omega) (show C.ln b ≤ 24 by omega) (by omega) (w1emp (w2close hj h4 h5 (by omega) k3 hs k4 l4 htm c ⟨rfl, ?_⟩))⟩
    have hP' := pool_upd (g := fl (va_cpy (C.ar b) (C.ar b) (t + m) t (n - t - m)) (n - m) m 0) (ce' := fl (va_cpy (M.la 3) (M.la 3) (24 * id y + t + m) (24 * id y + t) (n - t - m)) (24 * id y + (n - m)) m (blk s)) hP h2 hl hs (fun j' hj' => by
      by_cases e1 : n - m ≤ j'
      · rw [show fl (va_cpy (C.ar b) (C.ar b) (t + m) t (n - t - m)) (n - m) m 0 j' = 0 from if_pos (by omega), show fl (va_cpy (M.la 3) (M.la 3) (24 * id y + t + m) (24 * id y + t) (n - t - m)) (24 * id y + (n - m)) m (blk s) (24 * id y + j') = blk s from if_pos (by omega)]
        exact ⟨fun q => (if_pos q).symm, fun q => Or.inl ⟨rfl, if_neg (by omega)⟩⟩
      · rw [show fl (va_cpy (C.ar b) (C.ar b) (t + m) t (n - t - m)) (n - m) m 0 j' = va_cpy (C.ar b) (C.ar b) (t + m) t (n - t - m) j' from if_neg (by omega), show fl (va_cpy (M.la 3) (M.la 3) (24 * id y + t + m) (24 * id y + t) (n - t - m)) (24 * id y + (n - m)) m (blk s) (24 * id y + j') = va_cpy (M.la 3) (M.la 3) (24 * id y + t + m) (24 * id y + t) (n - t - m) (24 * id y + j') from if_neg (by omega)]
        by_cases e2 : t ≤ j'
        · rw [pk_cpy_in e2 (by omega), pk_cpy_in (by omega) (by omega), show 24 * id y + t + m + (24 * id y + j' - (24 * id y + t)) = 24 * id y + (t + m + (j' - t)) by omega]
          exact k5 _ (by omega)
        · rw [pk_cpy_out (by omega), pk_cpy_out (by omega)]
          exact k5 j' hj') (fun x hx => by
        rw [show fl (va_cpy (M.la 3) (M.la 3) (24 * id y + t + m) (24 * id y + t) (n - t - m)) (24 * id y + (n - m)) m (blk s) x = va_cpy (M.la 3) (M.la 3) (24 * id y + t + m) (24 * id y + t) (n - t - m) x from if_neg (by omega)]
        exact pk_cpy_out (by omega))
    have eC : ((((C.si 7 0).si 8 0).si 9 0).cpp b b (t + m) t (n - t - m)).sar b (fl ((((((C.si 7 0).si 8 0).si 9 0)).cpp b b (t + m) t (n - t - m)).ar b) (t + (n - t - m)) (n - (t + (n - t - m))) 0) = (((C.si 7 0).si 8 0).si 9 0).sar b (fl (va_cpy (C.ar b) (C.ar b) (t + m) t (n - t - m)) (n - m) m 0) := by
      rw [show (((C.si 7 0).si 8 0).si 9 0).cpp b b (t + m) t (n - t - m) = (((C.si 7 0).si 8 0).si 9 0).sar b (va_cpy (C.ar b) (C.ar b) (t + m) t (n - t - m)) from rfl, sar_sar, sar_ar, show t + (n - t - m) = n - m by omega, show n - (n - m) = m by omega]
    rw [eC]
    have hR0 : Rel0 (i + 1) ((((C.sar b (fl (va_cpy (C.ar b) (C.ar b) (t + m) t (n - t - m)) (n - m) m 0)).sbr none).si 5 0).si 6 0) ((M.stl 3 (fl (va_cpy (M.la 3) (M.la 3) (24 * id y + t + m) (24 * id y + t) (n - t - m)) (24 * id y + (n - m)) m (blk s))).si 16 0) := ⟨id, R, T, Sh, cn, 0, ⟨by omega, by omega, by omega⟩, ⟨n1, n2, n3, n4, n5, n6, n7, n8, rfl, rfl, by omega, n12, n13⟩, hL, hP', hS, Or.inl ⟨rfl, rfl⟩⟩
    exact ⟨rel0_of hR0 ⟨rfl, rfl, rfl, rfl, rfl, rfl, rfl, rfl, rfl, rfl, rfl⟩ ⟨rfl, rfl, rfl, rfl, rfl, rfl, rfl⟩ ⟨rfl, rfl, rfl, rfl, rfl, rfl, rfl, rfl, rfl, rfl⟩ ⟨rfl, rfl, rfl, rfl, rfl, rfl, rfl, rfl, rfl⟩, rfl, rfl, rfl⟩
end Ops12
