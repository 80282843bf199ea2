section Spl1
/-- how many frames go ahead of the first that isn't borne -/
theorem going (s m : Nat) (f : Nat → Int64) : ∃ g, g ≤ m ∧ (∀ c, c < g → ¬ bV s (f c) = 0) ∧ (g < m → bV s (f g) = 0) := by
  induction m with
  | zero => exact ⟨0, Nat.le_refl _, fun c h => absurd h (by omega), fun h => absurd h (by omega)⟩
  | succ m ih =>
    obtain ⟨g, h1, h2, h3⟩ := ih
    by_cases e : g < m
    · exact ⟨g, by omega, h2, fun _ => h3 e⟩
    · have e : g = m := by omega
      subst e
      by_cases z : bV s (f g) = 0
      · exact ⟨g, by omega, h2, fun _ => z⟩
      · refine ⟨g + 1, by omega, fun c hc => ?_, fun h => absurd h (by omega)⟩
        by_cases ec : c = g
        · rw [ec]; exact z
        · exact h2 c (by omega)
theorem wl_borne {C : cS} {K : Int32 → cS → Prop} {b t m s g n : Nat} (ha : C.aw b) (hl : C.ln b = n) (hn : n ≤ 24) (htm : t + m ≤ n) (hs : s < 8) (hg : g ≤ m) (h1 : ∀ c, c < g → ¬ bV s (C.ar b (t + c)) = 0) (h2 : g < m → bV s (C.ar b (t + g)) = 0) (k : K (nI g) C) : ∀ u c, c + u = g → wl_X1_borneAhead_3 K (u + 1) b (nI t) (nI m) (nI s) (nI c) C := by
  intro u
  induction u with
  | zero =>
    intro c hc
    have hc : c = g := by omega
    subst hc
    rw [wl_X1_borneAhead_3, nI_add, ck (by omega), hl]
    by_cases e : c = m
    · exact br_t (nI_le (by omega) (by omega)) k
    · refine br_f (nI_ge (a := c) (b := m) (by omega) (by omega)) ⟨ha, vp_in_nI (by omega) (by omega), w1bears hs ?_⟩
      rw [h2 (by omega)]
      exact br_t rfl k
  | succ u ih =>
    intro c hc
    rw [wl_X1_borneAhead_3, nI_add, ck (by omega), hl, nI_1]
    exact br_f (nI_ge (a := c) (b := m) (by omega) (by omega)) ⟨ha, vp_in_nI (by omega) (by omega), w1bears hs (br_f (h1 c (by omega)) (ih (c + 1) (by omega)))⟩
theorem w1borne {C : cS} {K : Int32 → cS → Prop} {b t m s g n : Nat} (ha : C.aw b) (hl : C.ln b = n) (hn : n ≤ 24) (htm : t + m ≤ n) (hs : s < 8) (hg : g ≤ m) (h1 : ∀ c, c < g → ¬ bV s (C.ar b (t + c)) = 0) (h2 : g < m → bV s (C.ar b (t + g)) = 0) (k : K (nI g) C) : wp_X1_borneAhead b (nI t) (nI m) (nI s) C K :=
  ⟨g + 1, wl_borne ha hl hn htm hs hg h1 h2 k g 0 (by omega)⟩
theorem stl_comm (S : mS) {i j : Nat} (h : i ≠ j) (f g : Nat → Int64) : (S.stl i f).stl j g = (S.stl j g).stl i f := by
  show (S.1, S.2.1, va_up (va_up S.2.2 i f) j g) = (S.1, S.2.1, va_up (va_up S.2.2 j g) i f)
  congr 2
  funext x
  by_cases e1 : x = j
  · have : x ≠ i := by omega
    rw [e1, up_s, up_n _ _ (by omega), up_s]
  · by_cases e2 : x = i
    · rw [e2, up_n _ _ h, up_s, up_s]
    · rw [up_n _ _ e1, up_n _ _ e2, up_n _ _ e2, up_n _ _ e1]
theorem stl_la_n (S : mS) {i j : Nat} (h : j ≠ i) (f : Nat → Int64) : (S.stl i f).la j = S.la j := up_n _ _ h
theorem sl_stl (S : mS) (j k : Nat) (v : Int64) : S.sl j k v = S.stl j (vp_updL (S.la j) k v) := rfl
theorem stl_stl (S : mS) (j : Nat) (f g : Nat → Int64) : (S.stl j f).stl j g = S.stl j g := by
  show (S.1, S.2.1, va_up (va_up S.2.2 j f) j g) = (S.1, S.2.1, va_up S.2.2 j g)
  rw [bx_uu]
/-- frames go to a reel of the reference, what they overwrite to its bin -/
theorem wl_goes {S : mS} {K : mS → Prop} {r q g : Nat} (hr : r < 512) (hq : q + g ≤ 24) (k : K (((S.stl 10 (va_cpy (S.la 3) (S.la 10) (24 * r + q) 0 g)).stl 3 (va_cpy (S.la 11) (S.la 3) 0 (24 * r + q) g)).si 22 (S.fi 22 + nI g))) : ∀ u c, c + u = g → wl_X2_goes_18 K (u + 1) (nI r) (nI q) (nI g) (nI c) ((S.stl 10 (va_cpy (S.la 3) (S.la 10) (24 * r + q) 0 c)).stl 3 (va_cpy (S.la 11) (S.la 3) 0 (24 * r + q) c)) := by
  intro u
  induction u with
  | zero =>
    intro c hc
    have hc : c = g := by omega
    subst hc
    rw [wl_X2_goes_18]
    exact br_t (nI_le (Nat.le_refl _) (by omega)) k
  | succ u ih =>
    intro c hc
    rw [wl_X2_goes_18, e24, nI_add, ck (by omega), ck (by omega), nI_1]
    refine br_f (nI_ge (a := c) (b := g) (by omega) (by omega)) ⟨vp_in_nI (by omega) (by decide), vp_in_nI (by omega) (by decide), vp_in_nI (by omega) (by decide), vp_in_nI (by omega) (by decide), ?_⟩
    have ih' := ih (c + 1) (by omega)
    rw [← cpy_s, ← cpy_s, Nat.zero_add] at ih'
    rw [stl_la, stl_la_n _ (show 11 ≠ 3 by decide), stl_la_n _ (show 11 ≠ 10 by decide), pk_cpy_out (j := 24 * r + q + c) (by omega), stl_comm _ (show 10 ≠ 3 by decide), stl_sl, stl_comm _ (show 3 ≠ 10 by decide), stl_sl]
    exact ih'
theorem w2goes {S : mS} {K : mS → Prop} {r q g : Nat} (hr : r < 512) (hq : q + g ≤ 24)
    (k : K (((((((S.si 14 (nI r)).si 15 (nI q)).si 16 (nI g)).stl 10 (va_cpy (S.la 3) (S.la 10) (24 * r + q) 0 g)).stl 3 (va_cpy (S.la 11) (S.la 3) 0 (24 * r + q) g)).si 22 (S.fi 22 + nI g)))) : wp_X2_goes (nI r) (nI q) (nI g) S K := by
  refine ⟨g + 1, ?_⟩
  have := wl_goes (S := ((S.si 14 (nI r)).si 15 (nI q)).si 16 (nI g)) (K := K) hr hq k g 0 (by omega)
  rw [cpy_0, cpy_0, show (((S.si 14 (nI r)).si 15 (nI q)).si 16 (nI g)).stl 10 ((((S.si 14 (nI r)).si 15 (nI q)).si 16 (nI g)).la 10) = ((S.si 14 (nI r)).si 15 (nI q)).si 16 (nI g) from stl_self _ _, show (((S.si 14 (nI r)).si 15 (nI q)).si 16 (nI g)).stl 3 ((((S.si 14 (nI r)).si 15 (nI q)).si 16 (nI g)).la 3) = ((S.si 14 (nI r)).si 15 (nI q)).si 16 (nI g) from stl_self _ _] at this
  exact this
end Spl1
