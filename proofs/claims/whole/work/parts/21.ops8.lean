section Ops8
def sR (sn sk : Nat → Int32) (Sh : Nat) (x y : Int64) : Prop := (x = 0 ∧ y = -1) ∨ ∃ k, k < Sh ∧ y = lN k ∧ x = enc k (sk k) (sn k)
def bV (s : Nat) (x : Int64) : Int32 := if s < 5 then 1 else if x = 0 then 1 else if kof x < nI s - 5 then 0 else 1
theorem w1bears {s : Nat} {x : Int64} {K : Int32 → Prop} (hs : s < 8) (k : K (bV s x)) : wp_X1_bears (nI s) x K := by
  unfold wp_X1_bears
  refine w1num (by omega) (fun h5 => br_p rfl ?_) (fun h5 => br_n (by decide) (by rw [show bV s x = 1 from if_pos h5] at k; exact k))
  have e0 : bV s x = if x = 0 then 1 else if kof x < nI s - 5 then 0 else 1 := if_neg (by omega)
  rw [e0] at k
  refine ⟨fun c => ?_, fun c => ⟨fun c2 => ?_, fun c2 => ?_⟩⟩
  · rw [if_pos c] at k; exact k
  · rw [if_neg c, if_pos (show kof x < nI s - 5 from c2)] at k; exact k
  · rw [if_neg c, if_neg (show ¬ kof x < nI s - 5 from c2)] at k; exact k
theorem w2bears {s Sh : Nat} {x y : Int64} {sn sk : Nat → Int32} {S : mS} {K : Int32 → mS → Prop} (hs : s < 8) (hk : ∀ k, k < Sh → ∃ d, d < 3 ∧ sk k = nI d) (hSh : Sh ≤ 512) (h : 5 ≤ s → sR sn sk Sh x y) (hS : S.ia 8 = sk) (k : K (bV s x) S) : wp_X2_bears (nI s) y S K := by
  unfold wp_X2_bears
  refine w2num (by omega) (fun h5 => br_p rfl ?_) (fun h5 => br_n (by decide) (by rw [show bV s x = 1 from if_pos h5] at k; exact k))
  have e0 : bV s x = if x = 0 then 1 else if kof x < nI s - 5 then 0 else 1 := if_neg (by omega)
  rw [e0] at k
  rcases h h5 with ⟨rfl, rfl⟩ | ⟨z, hz, rfl, rfl⟩
  · rw [if_pos rfl] at k
    exact br_f (by decide) k
  · obtain ⟨d, hd, ed⟩ := hk z hz
    rw [ed, if_neg (e_ne (by omega) hd _), e_kof (by omega) hd] at k
    have e5 : nI s - 5 = nI (s - 5) := pk_sub (b := 5) h5
    rw [e5] at k
    have e8 : S.ia 8 ((lN z).toInt32).toNatClampNeg = nI d := by rw [lN_i, ck (by omega), hS, ed]
    rw [e8]
    have c0 : (0 : Int64) ≤ lN z := (lN_le (a := 0) (by decide) (by omega)).mpr (Nat.zero_le _)
    refine br_t c0 ⟨by rw [lN_i]; exact vp_in_nI (by omega) (by decide), ?_⟩
    have lt : nI d < nI (s - 5) ↔ d < s - 5 := nI_ltI (by omega) (by omega)
    by_cases s5 : s = 5
    · subst s5
      rw [if_neg (by rw [lt]; omega)] at k
      exact br_t rfl k
    refine br_f (fun q => s5 ((nI_eq (b := 5) (by omega) (by decide)).mp q)) ?_
    by_cases d2 : d = 2
    · subst d2
      rw [if_neg (by rw [lt]; omega)] at k
      exact br_t rfl k
    refine br_f (fun q => d2 ((nI_eq (b := 2) (by omega) (by decide)).mp q)) ?_
    by_cases s6 : s = 6
    · subst s6
      refine br_p rfl ?_
      by_cases d1 : d = 1
      · subst d1
        rw [if_neg (by rw [lt]; omega)] at k
        exact br_p rfl k
      · rw [if_pos (by rw [lt]; omega)] at k
        exact br_n (fun q => d1 ((nI_eq (b := 1) (by omega) (by decide)).mp q)) k
    · rw [if_pos (by rw [lt]; omega)] at k
      exact br_n (fun q => s6 ((nI_eq (b := 6) (by omega) (by decide)).mp q)) k
theorem fR_mono {s Sh : Nat} {sn sk : Nat → Int32} {x y : Int64} {kd nb : Int32} (h : fR s sn sk Sh x y) : fR s (upd sn Sh nb) (upd sk Sh kd) (Sh + 1) x y := by
  refine ⟨h.1, fun h5 => ?_⟩
  rcases h.2 h5 with q | ⟨k, hk, e1, e2⟩
  · exact Or.inl q
  · exact Or.inr ⟨k, by omega, e1, by rw [pk_un (by omega), pk_un (by omega)]; exact e2⟩
theorem pool_shot {L : List Nat} {kd : Nat → Nat} {so nu : Nat → Int32} {fr : Nat → Option Nat} {ln : Nat → Nat} {ar : Nat → Nat → Int64} {st sz tg sn sk : Nat → Int32} {ce : Nat → Int64} {id : Nat → Nat} {R T Sh d : Nat} {nb : Int32}
    (hP : Pool L kd so nu fr ln ar st sz tg sn sk ce id R T Sh) (hd : d < 3) : Pool L kd so nu fr ln ar st sz tg (upd sn Sh nb) (upd sk Sh (nI d)) ce id R T (Sh + 1) := by
  obtain ⟨p1, p2, p3, p4⟩ := hP
  refine ⟨fun a ha => ?_, p2, p3, fun k hk => ?_⟩
  · obtain ⟨b, n, s, m1, m2, m3, m4, m5, m6, m7, m8⟩ := p1 a ha
    refine ⟨b, n, s, m1, m2, m3, m4, m5, m6, m7, fun h8 => ?_⟩
    obtain ⟨z1, z2, z3, z4, z5⟩ := m8 h8
    exact ⟨z1, z2, z3, z4, fun j hj => fR_mono (z5 j hj)⟩
  · by_cases e : k = Sh
    · exact ⟨d, hd, by rw [e, pk_us]⟩
    · rw [pk_un e]; exact p4 k (by omega)
theorem bin_shot {br : Option Nat} {f5 g14 g15 : Int32} {bf mb : Nat → Int64} {L : List Nat} {kd : Nat → Nat} {so : Nat → Int32} {fr : Nat → Option Nat} {ln : Nat → Nat} {sn sk : Nat → Int32} {id : Nat → Nat} {Sh bc : Nat} {kv nb : Int32} (hB : Bin br f5 g14 g15 bf mb L kd so fr ln sn sk id Sh bc) : Bin br f5 g14 g15 bf mb L kd so fr ln (upd sn Sh nb) (upd sk Sh kv) id (Sh + 1) bc := by
  rcases hB with h | ⟨a, b0, s, bp, h1, h2, h3, h4, h5, h6, h7, h8, h9, h10⟩
  · exact Or.inl h
  · exact Or.inr ⟨a, b0, s, bp, h1, h2, h3, h4, h5, h6, h7, h8, h9, fun j hj => fR_mono (h10 j hj)⟩
theorem w1rf6 {p w a : Int32} {C : cS} {K : Int32 → cS → Prop} (hb : p < 0 ∨ (8 : Int32) ≤ p) (k : K 6 C) : wp_X1_refusalOfFrame p w a C K := w1rr6 hb (br_f (by decide) k)
theorem w1rf1 {j : Nat} {w a : Int32} {C : cS} {K : Int32 → cS → Prop} (hj : j < 8) (h : C.sp j = none) (k : K 1 C) : wp_X1_refusalOfFrame (nI j) w a C K := w1rr1 hj h (br_f (by decide) k)
theorem w1rf2 {j b : Nat} {w a : Int32} {C : cS} {K : Int32 → cS → Prop} (hj : j < 8) (h : C.sp j = some b) (hl : C.ld b) (hs : C.so b = 8) (k : K 2 C) : wp_X1_refusalOfFrame (nI j) w a C K := w1rr2 hj h hl hs (br_f (by decide) k)
theorem sim_put {i : Nat} {C : cS} {M : mS} (h : Rel i C M) (hi5 : i < 512) (p0 p1 : Int32) (p2 : Int64) : wp_X1_put p0 p1 p2 C (fun r1 C' => wp_X2_put p0 p1 p2 M (fun r2 M' => r1 = r2 ∧ Rel (i + 1) C' M')) := by
  have h6 : ∀ {c : Int32}, Rel (i + 1) (((C.si 7 c).si 8 0).si 9 0) ((((((M.si 23 0).si 19 0).si 20 0).si 18 c).si 19 0).si 20 0) := rel_6 h
  have h4' : Rel (i + 1) (((C.si 7 4).si 8 0).si 9 0) (((((M.si 23 0).si 19 0).si 20 0).si 18 4).si 20 0) := rel_tell (rel0_up (Nat.le_succ i) h.1) ⟨rfl, rfl⟩ ⟨rfl, rfl, rfl, rfl, rfl, rfl, rfl, rfl, rfl⟩ rfl rfl rfl
  unfold wp_X1_put
  obtain ⟨⟨id, R, T, Sh, cn, bc, ⟨i1, i2, i3⟩, ⟨n1, n2, n3, n4, n5, n6, n7, n8, n9, n10, n11, n12, n13⟩, hL, hP, hS, hB⟩, hr⟩ := h
  rcases spCase hP hS p0 with hb | ⟨j, hj, rfl, h1, h2⟩ | ⟨j, a, b, n, hj, rfl, h1, h2, h3, h4, h5, hl⟩ | ⟨j, a, b, n, s, hj, rfl, h1, h2, h3, h4, h5, hs, hl⟩
  · exact w1rf6 hb (br_f (by decide) (w1set (w2beg (w2nr6 hb (br_f (by decide) (w2told (by decide) (by decide) ⟨rfl, h6⟩))))))
  · exact w1rf1 hj h1 (br_f (by decide) (w1set (w2beg (w2nr1 hj h2 (br_f (by decide) (w2told (by decide) (by decide) ⟨rfl, h6⟩))))))
  · exact w1rf2 hj h1 h2 h3 (br_f (by decide) (w1set (w2beg (w2nr2 hj h4 (br_f (by decide) (w2told (by decide) (by decide) ⟨rfl, h6⟩))))))
  have hl2 := hl
  obtain ⟨l1, l2, l3, l4, l5, l6, l7, l8⟩ := hl2
  obtain ⟨k1, k2, k3, k4, k5⟩ := l8 hs
  refine w1rf hj h1 h2 h3 l1 l2 l3 l4 l6 hs (fun q => ?_) (fun q z => ?_) (fun q t ht e => ?_)
  · have q5 : ¬ s < 5 := fun c => q (if_pos c)
    exact br_f (by decide) (w1set (w2put hj h4 h5 (by omega) k3 hs k4 l4 (fun _ => ⟨rfl, h6⟩) (fun c => absurd c q5) (fun c => absurd c q5) (by omega)))
  · have q5 : s < 5 := by
      by_cases c : s < 5
      · exact c
      · rw [if_neg c] at q; exact absurd q (by decide)
    refine br_f (by decide) (w1set (w2put hj h4 h5 (by omega) k3 hs k4 l4 (fun c => absurd q5 c) (fun _ _ => ⟨rfl, h4'⟩) (fun _ t ht e => ?_) (by omega)))
    subst e
    rcases z with z | z
    · exact absurd z (nI_pos (by omega))
    · exact absurd z (nI_ge ht (by omega))
  · have q5 : s < 5 := by
      by_cases c : s < 5
      · exact c
      · rw [if_neg c] at q; exact absurd q (by decide)
    subst e
    refine br_t rfl ⟨vp_in_nI hj (by decide), ?_⟩
    rw [ck (by omega), ck (by omega)]
    refine ⟨fun e' => (by rw [h1] at e'; cases e'), fun y e' => ?_⟩
    have ey : y = a := by rw [h1] at e'; cases e'; rfl
    subst ey
    refine ⟨h2, b, l1, h2, ?_⟩
    rw [l6]
    refine w1fit q5 ⟨l2, by rw [l3]; exact vp_in_nI ht (by omega), w1emp (w1set (w2put hj h4 h5 (by omega) k3 hs k4 l4 (fun c => absurd q5 c) (fun _ z => ?_) (fun _ t' ht' e _ => ⟨rfl, ?_⟩) (by omega)))⟩
    · rcases z with z | z
      · exact absurd z (nI_pos (by omega))
      · exact absurd z (nI_ge ht (by omega))
    · have et : t' = t := ((nI_eq (by omega) (by omega)).mp e).symm
      subst et
      have hP' := pool_upd (g := vp_updL (C.ar b) t' (cut s p2)) (ce' := vp_updL (M.la 3) (24 * id y + t') (cut s p2)) hP h2 hl hs (fun j' hj' => by
        by_cases e' : j' = t'
        · subst e'
          rw [pk_uLs, pk_uLs]
          exact ⟨fun _ => rfl, fun c => absurd q5 (by omega)⟩
        · rw [pk_uLn e', pk_uLn (by omega)]
          exact k5 j' hj') (fun x hx => pk_uLn (by omega))
      exact rel_tell (C := (((C.sal b t' (cut s p2)).sbr none).si 5 0).si 6 0) (M := (M.sl 3 (24 * id y + t') (cut s p2)).si 16 0) ⟨id, R, T, Sh, cn, 0, ⟨by omega, by omega, by omega⟩, ⟨n1, n2, n3, n4, n5, n6, n7, n8, rfl, rfl, by omega, n12, n13⟩, hL, hP', hS, Or.inl ⟨rfl, rfl⟩⟩ ⟨rfl, rfl⟩ ⟨rfl, rfl, rfl, rfl, rfl, rfl, rfl, rfl, rfl⟩ rfl rfl rfl
end Ops8
