section Ops11
theorem sar_sal (C : cS) (b k : Nat) (g : Nat → Int64) (v : Int64) : (C.sar b g).sal b k v = C.sar b (vp_updL g k v) := by
  show (C.fi, C.sp, C.cu, C.bf, C.br, C.L, C.kd, C.so, C.nu, C.fr, C.ln, va_up (va_up C.ar b g) b (vp_updL (va_up C.ar b g b) k v)) = (C.fi, C.sp, C.cu, C.bf, C.br, C.L, C.kd, C.so, C.nu, C.fr, C.ln, va_up C.ar b (vp_updL g k v))
  rw [up_s, bx_uu]
theorem sar_sar (C : cS) (b : Nat) (g f : Nat → Int64) : (C.sar b g).sar b f = C.sar b f := by
  show (C.fi, C.sp, C.cu, C.bf, C.br, C.L, C.kd, C.so, C.nu, C.fr, C.ln, va_up (va_up C.ar b g) b f) = (C.fi, C.sp, C.cu, C.bf, C.br, C.L, C.kd, C.so, C.nu, C.fr, C.ln, va_up C.ar b f)
  rw [bx_uu]
theorem sar_self (C : cS) (b : Nat) : C.sar b (C.ar b) = C := by
  show (C.fi, C.sp, C.cu, C.bf, C.br, C.L, C.kd, C.so, C.nu, C.fr, C.ln, va_up C.ar b (C.ar b)) = (C.fi, C.sp, C.cu, C.bf, C.br, C.L, C.kd, C.so, C.nu, C.fr, C.ln, C.ar)
  congr 11
  funext x
  by_cases e : x = b
  · subst e; rw [up_s]
  · rw [up_n _ _ e]
theorem sar_ar (C : cS) (b : Nat) (g : Nat → Int64) : (C.sar b g).ar b = g := up_s _ _ _
theorem wl_blank {C : cS} {K : cS → Prop} {b x e : Nat} (ha : C.aw b) (he : e ≤ C.ln b) (hn : C.ln b ≤ 24) (hx : x ≤ e) (k : K (C.sar b (fl (C.ar b) x (e - x) 0))) : ∀ t c, x + c + t = e → wl_X1_blankFrames_2 K (t + 1) b (nI x) (nI e) (nI (x + c)) (C.sar b (fl (C.ar b) x c 0)) := by
  intro t
  induction t with
  | zero =>
    intro c hc
    have hc : c = e - x := by omega
    subst hc
    rw [wl_X1_blankFrames_2]
    exact br_t (nI_le (by omega) (by omega)) k
  | succ t ih =>
    intro c hc
    rw [wl_X1_blankFrames_2]
    refine br_f (nI_ge (a := x + c) (b := e) (by omega) (by omega)) ⟨ha, (show vp_in (nI (x + c)) (C.ln b) from vp_in_nI (by omega) (by omega)), ?_⟩
    rw [ck (by omega), nI_1, sar_sal, fl_s]
    exact ih (c + 1) (by omega)
theorem w1blank {C : cS} {K : cS → Prop} {b x e : Nat} (ha : C.aw b) (he : e ≤ C.ln b) (hn : C.ln b ≤ 24) (hx : x ≤ e) (k : K (C.sar b (fl (C.ar b) x (e - x) 0))) : wp_X1_blankFrames b (nI x) (nI e) C K := by
  have := wl_blank ha he hn hx k (e - x) 0 (by omega)
  rw [fl_0, sar_self] at this
  exact ⟨_, this⟩
theorem w1gap6 {p p1 p2 : Int32} {C : cS} {K : Int32 → cS → Prop} (hb : p < 0 ∨ (8 : Int32) ≤ p) (k : K 6 (((C.si 7 6).si 8 0).si 9 0)) : wp_X1_refusalOfGap p p1 p2 C K := w1rr6 hb (br_f (by decide) (w1set k))
theorem w1gap1 {j : Nat} {p1 p2 : Int32} {C : cS} {K : Int32 → cS → Prop} (hj : j < 8) (h : C.sp j = none) (k : K 1 (((C.si 7 1).si 8 0).si 9 0)) : wp_X1_refusalOfGap (nI j) p1 p2 C K := w1rr1 hj h (br_f (by decide) (w1set k))
theorem w1gap2 {j b : Nat} {p1 p2 : Int32} {C : cS} {K : Int32 → cS → Prop} (hj : j < 8) (h : C.sp j = some b) (hl : C.ld b) (hs : C.so b = 8) (k : K 2 (((C.si 7 2).si 8 0).si 9 0)) : wp_X1_refusalOfGap (nI j) p1 p2 C K := w1rr2 hj h hl hs (br_f (by decide) (w1set k))
theorem w1gap {j a b n : Nat} {p1 p2 : Int32} {C : cS} {K : Int32 → cS → Prop} (hj : j < 8) (h1 : C.sp j = some a) (h2 : C.ld a) (h3 : ¬ C.so a = 8) (l1 : C.fr a = some b) (l2 : C.aw b) (l3 : C.ln b = n)
    (k4 : ¬ wv p1 0 p2 (nI n) (nI n) = 0 → K 4 (((C.si 7 4).si 8 (wv p1 0 p2 (nI n) (nI n))).si 9 0)) (k0 : wv p1 0 p2 (nI n) (nI n) = 0 → K 0 (((C.si 7 0).si 8 0).si 9 0)) : wp_X1_refusalOfGap (nI j) p1 p2 C K := by
  refine w1rr0 hj h1 h2 h3 (br_t rfl ⟨vp_in_nI hj (by decide), ?_⟩)
  rw [ck (by omega)]
  refine ⟨fun e => absurd (e.symm.trans h1) (by simp), fun y e => ?_⟩
  have ey : y = a := Option.some.inj (e.symm.trans h1)
  subst ey
  refine ⟨h2, b, l1, l2, ?_⟩
  rw [l3]
  refine w1way ⟨fun c => w1set (k4 c), fun c => w1set ?_⟩
  rw [c]
  exact k0 c
theorem w2gap6 {p p1 p2 : Int32} {S : mS} {K : Int32 → mS → Prop} (hb : p < 0 ∨ (8 : Int32) ≤ p) (k : K 6 ((S.si 19 0).si 20 0)) : wp_X2_noGap p p1 p2 S K := w2beg (w2nr6 hb (br_f (by decide) k))
theorem w2gap1 {j : Nat} {p1 p2 : Int32} {S : mS} {K : Int32 → mS → Prop} (hj : j < 8) (h : S.ia 4 j = 0) (k : K 1 ((S.si 19 0).si 20 0)) : wp_X2_noGap (nI j) p1 p2 S K := w2beg (w2nr1 hj h (br_f (by decide) k))
theorem w2gap2 {j : Nat} {p1 p2 : Int32} {S : mS} {K : Int32 → mS → Prop} (hj : j < 8) (h : S.ia 4 j = 2) (k : K 2 ((S.si 19 0).si 20 0)) : wp_X2_noGap (nI j) p1 p2 S K := w2beg (w2nr2 hj h (br_f (by decide) k))
theorem w2gap {j r n : Nat} {p1 p2 : Int32} {S : mS} {K : Int32 → mS → Prop} (hj : j < 8) (h4 : S.ia 4 j = 1) (h5 : S.ia 5 j = nI r) (hr : r < 513) (h2 : S.ia 2 r = nI n) (hn : n ≤ 24)
    (k4 : ¬ wv p1 0 p2 (nI n) (nI n) = 0 → K 4 (((S.si 19 0).si 20 0).si 19 (wv p1 0 p2 (nI n) (nI n)))) (k0 : wv p1 0 p2 (nI n) (nI n) = 0 → K 0 (((S.si 19 0).si 20 0).si 19 0)) : wp_X2_noGap (nI j) p1 p2 S K := by
  refine w2beg (w2nr0 hj h4 (br_t (by decide) ?_))
  rw [ck (by omega)]
  have g5 : ((S.si 19 0).si 20 0).ia 5 j = nI r := h5
  have g2 : ((S.si 19 0).si 20 0).ia 2 r = nI n := h2
  rw [g5, ck (by omega), g2]
  refine ⟨vp_in_nI hj (by decide), vp_in_nI hr (by decide), w2way ?_⟩
  rw [← wv_gap hn]
  rcases wv_rng p1 0 p2 (nI n) (nI n) with e | ⟨e1, e2⟩
  · rw [e]
    exact br_t (by decide) (k0 e)
  · exact br_f (fun q => by rw [i_le] at q; rw [i_lt] at e1; omega) (k4 e2)
theorem cpy_d (f : Nat → Int64) (a b k : Nat) : vp_updL (va_cpy f f (a + 1) (b + 1) k) b (f a) = va_cpy f f a b (k + 1) := by
  funext j
  simp only [vp_updL, va_cpy]
  by_cases e : j = b
  · rw [if_pos e, if_pos (by omega)]
    congr 1
    omega
  · rw [if_neg e]
    by_cases h : b + 1 ≤ j ∧ j < b + 1 + k
    · rw [if_pos h, if_pos (by omega)]
      congr 1
      omega
    · rw [if_neg h, if_neg (by omega)]
theorem m1_int {x : Nat} (h : x < 2 ^ 31) : (nI x + (-1)).toInt = (x : Int) - 1 := by
  cases x with
  | zero => decide
  | succ y => rw [pk_m1, nI_toInt (by omega)]; omega
theorem wl_fill95 {S : mS} {K : Int32 → mS → Prop} {r s n t m : Nat} {g : Nat → Int64} {v1 v4 : Int32} (hr : r < 512) (h1 : S.ia 1 r = nI s) (hs : s < 8) (hn : n ≤ 24) (htm : t + m ≤ n)
    (k : K (nI (n - t - m)) (((((S.stl 3 (fl g (24 * r + t) m (blk s))).si 16 0).si 18 0).si 19 0).si 20 0)) : ∀ u c, c + u = m → wl_X2_open_95 K (u + 1) v1 (nI t) (nI m) v4 (nI r) (nI n) (nI (t + c)) (S.stl 3 (fl g (24 * r + t) c (blk s))) := by
  intro u
  induction u with
  | zero =>
    intro c hc
    have hc : c = m := by omega
    subst hc
    rw [wl_X2_open_95, nI_add]
    refine br_t (nI_le (Nat.le_refl _) (by omega)) (w2told (by decide) (by decide) ?_)
    rw [pk_sub (by omega), pk_sub (by omega)]
    exact k
  | succ u ih =>
    intro c hc
    rw [wl_X2_open_95, nI_add, ck (by omega), e24, ck (by omega), nI_1, stl_sl, stl_sl]
    refine br_f (nI_ge (a := t + c) (b := t + m) (by omega) (by omega)) ⟨vp_in_nI (by omega) (by decide), ?_⟩
    have g1 : (S.stl 3 (fl g (24 * r + t) c (blk s))).ia 1 r = nI s := h1
    rw [g1]
    have ih' := ih (c + 1) (by omega)
    rw [← fl_s, Nat.add_assoc, ← Nat.add_assoc t c 1] at ih'
    refine w2num (by omega) (fun h5 => br_t rfl ⟨vp_in_nI (by omega) (by decide), ?_⟩) (fun h5 => br_f (by decide) ⟨vp_in_nI (by omega) (by decide), ?_⟩)
    · rw [show blk s = -1 from if_neg (by omega)] at ih' ⊢
      exact ih'
    · rw [show blk s = 0 from if_pos h5] at ih' ⊢
      exact ih'
theorem wl_open50 {S : mS} {K : Int32 → mS → Prop} {r s n t m : Nat} {v1 v4 : Int32} (hr : r < 512) (h1 : S.ia 1 r = nI s) (hs : s < 8) (hn : n ≤ 24) (htm : t + m ≤ n)
    (k : K (nI (n - t - m)) (((((S.stl 3 (fl (va_cpy (S.la 3) (S.la 3) (24 * r + t) (24 * r + t + m) (n - t - m)) (24 * r + t) m (blk s))).si 16 0).si 18 0).si 19 0).si 20 0)) : ∀ c, t + m + c ≤ n → wl_X2_open_50 K (c + 1) v1 (nI t) (nI m) v4 (nI r) (nI n) (nI (t + m + c) + (-1)) (S.stl 3 (va_cpy (S.la 3) (S.la 3) (24 * r + t + c) (24 * r + t + m + c) (n - t - m - c))) := by
  intro c
  induction c with
  | zero =>
    intro hc
    rw [wl_X2_open_50, nI_add]
    refine br_t ?_ ⟨m + 1, ?_⟩
    · rw [i_lt, m1_int (by omega), nI_toInt (by omega)]; omega
    · have := wl_fill95 (S := S) (K := K) (g := va_cpy (S.la 3) (S.la 3) (24 * r + t) (24 * r + t + m) (n - t - m)) (v1 := v1) (v4 := v4) hr h1 hs hn htm k m 0 (by omega)
      rw [fl_0] at this
      exact this
  | succ c ih =>
    intro hc
    rw [wl_X2_open_50, nI_add, show t + m + (c + 1) = (t + m + c) + 1 by omega, pk_m1, e24, pk_sub (by omega), ck (by omega), ck (by omega), stl_sl, stl_la]
    refine br_f ?_ ⟨vp_in_nI (by omega) (by decide), vp_in_nI (by omega) (by decide), ?_⟩
    · rw [i_lt, nI_toInt (by omega), nI_toInt (by omega)]; omega
    · have ih' := ih (by omega)
      rw [pk_cpy_out (by omega), show 24 * r + (t + m + c) - m = 24 * r + t + c by omega, show 24 * r + (t + m + c) = 24 * r + t + m + c by omega, show 24 * r + t + (c + 1) = (24 * r + t + c) + 1 by omega, show 24 * r + t + m + (c + 1) = (24 * r + t + m + c) + 1 by omega, cpy_d, show n - t - m - (c + 1) + 1 = n - t - m - c by omega]
      exact ih'
theorem sub1 (x : Int32) : x - 1 = x + (-1) := by rw [Int32.sub_eq_add_neg]
theorem w2open {j r n s t m : Nat} {M : mS} {K : Int32 → mS → Prop} (hj : j < 8) (h4 : M.ia 4 j = 1) (h5 : M.ia 5 j = nI r) (hr : r < 512) (h1 : M.ia 1 r = nI s) (hs : s < 8) (h2 : M.ia 2 r = nI n) (hn : n ≤ 24) (htm : t + m ≤ n) (hw : wv (nI t) 0 (nI m) (nI n) (nI n) = 0)
    (k : K (nI (n - t - m)) (((((((((M.si 23 0).si 19 0).si 20 0).si 19 0).stl 3 (fl (va_cpy (M.la 3) (M.la 3) (24 * r + t) (24 * r + t + m) (n - t - m)) (24 * r + t) m (blk s))).si 16 0).si 18 0).si 19 0).si 20 0)) : wp_X2_open (nI j) (nI t) (nI m) M K := by
  unfold wp_X2_open
  refine w2gap (S := M.si 23 0) hj h4 h5 (by omega) h2 hn (fun c => absurd hw c) (fun _ => br_t (by decide) ?_)
  rw [ck (by omega)]
  have g5 : ((((M.si 23 0).si 19 0).si 20 0).si 19 0).ia 5 j = nI r := h5
  have g2 : ((((M.si 23 0).si 19 0).si 20 0).si 19 0).ia 2 r = nI n := h2
  rw [g5, ck (by omega), g2, sub1]
  refine ⟨vp_in_nI hj (by decide), vp_in_nI (by omega) (by decide), n - t - m + 1, ?_⟩
  have := wl_open50 (S := (((M.si 23 0).si 19 0).si 20 0).si 19 0) (K := K) (v1 := nI j) (v4 := 0) hr h1 hs hn htm k (n - t - m) (by omega)
  rw [show t + m + (n - t - m) = n by omega, Nat.sub_self, cpy_0, show ((((M.si 23 0).si 19 0).si 20 0).si 19 0).stl 3 (((((M.si 23 0).si 19 0).si 20 0).si 19 0).la 3) = (((M.si 23 0).si 19 0).si 20 0).si 19 0 from stl_self _ _] at this
  exact this
end Ops11
