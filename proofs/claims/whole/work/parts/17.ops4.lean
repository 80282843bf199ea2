section Ops4
def mS.stl (S : mS) (j : Nat) (g : Nat → Int64) : mS := (S.1, S.2.1, va_up S.2.2 j g)
theorem msl_stl (S : mS) (j : Nat) (g : Nat → Int64) : (S.stl j g).fi = S.fi ∧ (S.stl j g).ia = S.ia ∧ (S.stl j g).la = va_up S.la j g := ⟨rfl, rfl, rfl⟩
theorem stl_sl (S : mS) (j k : Nat) (g : Nat → Int64) (v : Int64) : (S.stl j g).sl j k v = S.stl j (vp_updL g k v) := by
  show (S.1, S.2.1, va_up (va_up S.2.2 j g) j (vp_updL (va_up S.2.2 j g j) k v)) = (S.1, S.2.1, va_up S.2.2 j (vp_updL g k v))
  rw [up_s, bx_uu]
theorem stl_self (S : mS) (j : Nat) : S.stl j (S.la j) = S := by
  show (S.1, S.2.1, va_up S.2.2 j (S.2.2 j)) = (S.1, S.2.1, S.2.2)
  congr 2
  funext x
  by_cases e : x = j
  · subst e; rw [up_s]
  · rw [up_n _ _ e]
theorem stl_la (S : mS) (j : Nat) (g : Nat → Int64) : (S.stl j g).la j = g := by
  show va_up S.2.2 j g j = g
  rw [up_s]
def fl (f : Nat → Int64) (b k : Nat) (v : Int64) : Nat → Int64 := fun j => if b ≤ j ∧ j < b + k then v else f j
theorem fl_0 (f : Nat → Int64) (b : Nat) (v : Int64) : fl f b 0 v = f := by
  funext j
  exact if_neg (by omega)
theorem fl_s (f : Nat → Int64) (b k : Nat) (v : Int64) : vp_updL (fl f b k v) (b + k) v = fl f b (k + 1) v := by
  funext j
  simp only [vp_updL, fl]
  by_cases e : j = b + k
  · rw [if_pos e, if_pos (by omega)]
  · rw [if_neg e]
    by_cases h : b ≤ j ∧ j < b + k
    · rw [if_pos h, if_pos (by omega)]
    · rw [if_neg h, if_neg (by omega)]
theorem cpy_0 (f g : Nat → Int64) (sp dp : Nat) : va_cpy f g sp dp 0 = g := by
  funext j
  exact if_neg (by omega)
theorem cpy_s (f g : Nat → Int64) (sp dp c : Nat) : vp_updL (va_cpy f g sp dp c) (dp + c) (f (sp + c)) = va_cpy f g sp dp (c + 1) := by
  funext j
  simp only [vp_updL, va_cpy]
  by_cases e : j = dp + c
  · rw [if_pos e, if_pos (by omega)]
    congr 1
    omega
  · rw [if_neg e]
    by_cases h : dp ≤ j ∧ j < dp + c
    · rw [if_pos h, if_pos (by omega)]
    · rw [if_neg h, if_neg (by omega)]
theorem e24 (R c : Nat) : (24 : Int32) * nI R + nI c = nI (24 * R + c) := by rw [show (24 : Int32) = nI 24 from rfl, pk_mul, nI_add]
def blk (s : Nat) : Int64 := if s < 5 then 0 else -1
theorem wl_newReel {R s n : Nat} {S : mS} {K : Int32 → mS → Prop} (hR : S.fi 3 = nI R) (hR5 : R < 513) (hs : s ≤ 8) (hn : n ≤ 24) (k : K (nI R) ((S.stl 3 (fl (S.la 3) (24 * R) n (blk s))).si 3 (nI (R + 1)))) : ∀ m c, c + m = n → wl_X2_newReel_22 K (m + 1) (nI s) (nI n) (nI c) (S.stl 3 (fl (S.la 3) (24 * R) c (blk s))) := by
  intro m
  induction m with
  | zero =>
    intro c hc
    have hc : c = n := by omega
    subst hc
    rw [wl_X2_newReel_22]
    refine br_t (nI_le (Nat.le_refl _) (by omega)) ?_
    show K (S.fi 3 + 1 - 1) ((S.stl 3 (fl (S.la 3) (24 * R) c (blk s))).si 3 (S.fi 3 + 1))
    rw [hR, nI_1, nI_pred]
    exact k
  | succ m ih =>
    intro c hc
    rw [wl_X2_newReel_22]
    refine br_f (nI_ge (a := c) (b := n) (by omega) (by omega)) ?_
    have e : (24 : Int32) * (S.stl 3 (fl (S.la 3) (24 * R) c (blk s))).fi 3 + nI c = nI (24 * R + c) := by
      show (24 : Int32) * S.fi 3 + nI c = _
      rw [hR, e24]
    rw [e, ck (by omega), nI_1, stl_sl, stl_sl]
    have ih' := ih (c + 1) (by omega)
    rw [← fl_s] at ih'
    refine w2num hs (fun h5 => br_t rfl ⟨vp_in_nI (by omega) (by decide), ?_⟩) (fun h5 => br_f (by decide) ⟨vp_in_nI (by omega) (by decide), ?_⟩)
    · rw [show blk s = -1 from if_neg (by omega)] at ih' ⊢
      exact ih'
    · rw [show blk s = 0 from if_pos h5] at ih' ⊢
      exact ih'
theorem w2newReel {R s n : Nat} {S : mS} {K : Int32 → mS → Prop} (hR : S.fi 3 = nI R) (hR5 : R < 513) (hs : s ≤ 8) (hn : n ≤ 24) (k : K (nI R) ((((S.sa 1 R (nI s)).sa 2 R (nI n)).stl 3 (fl (S.la 3) (24 * R) n (blk s))).si 3 (nI (R + 1)))) : wp_X2_newReel (nI s) (nI n) S K := by
  unfold wp_X2_newReel
  rw [hR, ck (by omega)]
  refine ⟨vp_in_nI hR5 (by decide), vp_in_nI hR5 (by decide), n + 1, ?_⟩
  have := wl_newReel (S := (S.sa 1 R (nI s)).sa 2 R (nI n)) (K := K) hR hR5 hs hn k n 0 (by omega)
  rw [fl_0, stl_self] at this
  exact this
end Ops4
