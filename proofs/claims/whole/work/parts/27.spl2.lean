section Spl2
/-- the reference behind its loop: g frames fit, of m -/
def gE (S : mS) (r t g : Nat) : mS := S.stl 11 (va_cpy (S.la 3) (S.la 11) (24 * r + t) 0 g)
def gE2 (E : mS) (r2 q g : Nat) : mS := ((((((E.si 14 (nI r2)).si 15 (nI q)).si 16 (nI g)).stl 10 (va_cpy (E.la 3) (E.la 10) (24 * r2 + q) 0 g)).stl 3 (va_cpy (E.la 11) (E.la 3) 0 (24 * r2 + q) g)).si 22 (E.fi 22 + nI g))
theorem w2fin {E : mS} {K : Int32 → mS → Prop} {r2 q g m : Nat} (hr : r2 < 512) (hq : q + g ≤ 24) (hq2 : q < 1000000) (hg : g ≤ m) (hm : m ≤ 24) (k0 : g = m → g = 0 → K 0 (E.si 21 (E.fi 21 + 1))) (k5 : g < m → g = 0 → K 5 (E.si 20 (nI g)))
    (g0 : g = m → 0 < g → K 0 ((gE2 E r2 q g).si 21 ((gE2 E r2 q g).fi 21 + 1))) (g5 : g < m → 0 < g → K 5 ((gE2 E r2 q g).si 20 (nI g))) :
    ((nI g ≤ 0 → ((lN m ≤ (nI g).toInt64 → K 0 (E.si 21 (E.fi 21 + 1))) ∧ (¬ lN m ≤ (nI g).toInt64 → K 5 (E.si 20 (nI g))))) ∧ (¬ nI g ≤ 0 → wp_X2_goes (nI r2) ((lN q).toInt32) (nI g) E (fun S28 => ((lN m ≤ (nI g).toInt64 → K 0 (S28.si 21 (S28.fi 21 + 1))) ∧ (¬ lN m ≤ (nI g).toInt64 → K 5 (S28.si 20 (nI g))))))) := by
  rw [nI_l (by omega), lN_i]
  have le : lN m ≤ lN g ↔ m ≤ g := lN_le (by omega) (by omega)
  refine ⟨fun c => ?_, fun c => w2goes hr hq ?_⟩
  · have e : g = 0 := by
      have := (nI_leI (b := 0) (by omega) (by decide)).mp c
      omega
    exact ⟨fun c2 => k0 (by have := le.mp c2; omega) e, fun c2 => k5 (by have := mt le.mpr c2; omega) e⟩
  · have e : 0 < g := Nat.pos_of_ne_zero fun z => c (by rw [z]; decide)
    exact ⟨fun c2 => g0 (by have := le.mp c2; omega) e, fun c2 => g5 (by have := mt le.mpr c2; omega) e⟩
theorem wl_spliced {S : mS} {K : Int32 → mS → Prop} {r t m r2 s2 q g Sh : Nat} {v1 v4 : Int32} {xf : Nat → Int64} {sn sk : Nat → Int32} (hr : r < 512) (htm : t + m ≤ 24) (hr2 : r2 < 512) (hq : q + m ≤ 24) (hs : s2 < 8) (h1s : S.ia 1 r2 = nI s2) (h8 : S.ia 8 = sk) (hk : ∀ k, k < Sh → ∃ d, d < 3 ∧ sk k = nI d) (hSh : Sh ≤ 512)
    (hx : ∀ c, c < m → 5 ≤ s2 → sR sn sk Sh (xf (t + c)) (S.la 3 (24 * r + t + c))) (hg : g ≤ m) (h1 : ∀ c, c < g → ¬ bV s2 (xf (t + c)) = 0) (h2 : g < m → bV s2 (xf (t + g)) = 0)
    (k0 : g = m → g = 0 → K 0 ((gE S r t g).si 21 ((gE S r t g).fi 21 + 1))) (k5 : g < m → g = 0 → K 5 ((gE S r t g).si 20 (nI g)))
    (g0 : g = m → 0 < g → K 0 ((gE2 (gE S r t g) r2 q g).si 21 ((gE2 (gE S r t g) r2 q g).fi 21 + 1))) (g5 : g < m → 0 < g → K 5 ((gE2 (gE S r t g) r2 q g).si 20 (nI g))) :
    ∀ u c, c + u = g → wl_X2_spliced_166 K (u + 1) v1 (lN t) v4 (lN q) (lN m) (nI r) (nI r2) (nI c) (gE S r t c) := by
  intro u
  induction u with
  | zero =>
    intro c hc
    have hc : c = g := by omega
    subst hc
    have fin := w2fin (E := gE S r t c) (K := K) (r2 := r2) (q := q) (g := c) (m := m) hr2 (by omega) (by omega) hg (by omega) k0 k5 g0 g5
    rw [wl_X2_spliced_166]
    refine ⟨fun _ => fin, fun cc => ?_⟩
    have hcm : c < m := by
      have le : lN m ≤ (nI c).toInt64 ↔ m ≤ c := by rw [nI_l (by omega)]; exact lN_le (by omega) (by omega)
      have := mt le.mpr cc
      omega
    have e1 : (gE S r t c).ia 1 r2 = nI s2 := h1s
    have e3 : (gE S r t c).la 3 = S.la 3 := stl_la_n _ (by decide) _
    rw [lN_i, e24, nI_add, ck (by omega), ck (by omega), e1, e3]
    refine ⟨vp_in_nI (by omega) (by decide), vp_in_nI (by omega) (by decide), w2bears hs hk hSh (hx c hcm) h8 ?_⟩
    rw [h2 hcm]
    exact br_t rfl fin
  | succ u ih =>
    intro c hc
    rw [wl_X2_spliced_166]
    have e1 : (gE S r t c).ia 1 r2 = nI s2 := h1s
    have e3 : (gE S r t c).la 3 = S.la 3 := stl_la_n _ (by decide) _
    have ih' := ih (c + 1) (by omega)
    rw [show gE S r t (c + 1) = S.stl 11 (vp_updL (va_cpy (S.la 3) (S.la 11) (24 * r + t) 0 c) (0 + c) (S.la 3 (24 * r + t + c))) from by rw [cpy_s]; rfl, Nat.zero_add] at ih'
    refine br_f ?_ ?_
    · rw [nI_l (by omega), lN_le (by omega) (by omega)]; omega
    · rw [lN_i, e24, nI_add, ck (by omega), ck (by omega), ck (by omega), e1, e3, nI_1]
      refine ⟨vp_in_nI (by omega) (by decide), vp_in_nI (by omega) (by decide), w2bears hs hk hSh (hx c (by omega)) h8 (br_f (h1 c (by omega)) ⟨vp_in_nI (by omega) (by decide), vp_in_nI (by omega) (by decide), ?_⟩)⟩
      rw [e3, show (gE S r t c).sl 11 c (S.la 3 (24 * r + t + c)) = S.stl 11 (vp_updL (va_cpy (S.la 3) (S.la 11) (24 * r + t) 0 c) c (S.la 3 (24 * r + t + c))) from stl_sl _ _ _ _ _]
      exact ih'
def dsP (i : Nat) (C : cS) (M : mS) (r1 : Int32) (C' : cS) (r2 : Int32) (M' : mS) : Prop := r1 = r2 ∧ Rel0 i C' M' ∧ C'.fi 7 = r1 ∧ C'.fi 8 = M'.fi 19 ∧ C'.fi 9 = M'.fi 20 ∧ (¬ r1 = 4 → M'.fi 19 = 0) ∧ (¬ r1 = 5 → M'.fi 20 = 0) ∧ (r1 = 0 ∨ (0 < r1 ∧ ¬ r1 = 0)) ∧ (C'.fi 2 = C.fi 2 ∧ C'.cu = C.cu ∧ M'.ia 9 = M.ia 9 ∧ M'.fi 12 = M.fi 12)
theorem ds_ref {i : Nat} {C : cS} {M : mS} (h : Rel0 i C M) {c : Int32} (hc : 0 < c ∧ ¬ c = 0) : dsP i C M c (((C.si 7 c).si 8 0).si 9 0) c ((M.si 19 0).si 20 0) :=
  ⟨rfl, rel0_of h ⟨rfl, rfl, rfl, rfl, rfl, rfl, rfl, rfl, rfl, rfl, rfl⟩ ⟨rfl, rfl, rfl, rfl, rfl, rfl, rfl⟩ ⟨rfl, rfl, rfl, rfl, rfl, rfl, rfl, rfl, rfl, rfl⟩ ⟨rfl, rfl, rfl, rfl, rfl, rfl, rfl, rfl, rfl⟩, rfl, rfl, rfl, fun _ => rfl, fun _ => rfl, Or.inr hc, rfl, rfl, rfl, rfl⟩
theorem ds_way {i : Nat} {C : cS} {M : mS} (h : Rel0 i C M) {w : Int32} : dsP i C M 4 (((C.si 7 4).si 8 w).si 9 0) 4 (((M.si 19 0).si 20 0).si 19 w) :=
  ⟨rfl, rel0_of h ⟨rfl, rfl, rfl, rfl, rfl, rfl, rfl, rfl, rfl, rfl, rfl⟩ ⟨rfl, rfl, rfl, rfl, rfl, rfl, rfl⟩ ⟨rfl, rfl, rfl, rfl, rfl, rfl, rfl, rfl, rfl, rfl⟩ ⟨rfl, rfl, rfl, rfl, rfl, rfl, rfl, rfl, rfl⟩, rfl, rfl, rfl, fun q => absurd rfl q, fun _ => rfl, Or.inr (by decide), rfl, rfl, rfl, rfl⟩
end Spl2
