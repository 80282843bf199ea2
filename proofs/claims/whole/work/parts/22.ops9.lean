section Ops9
/-- shoot of kind 3, of the reference -/
theorem w2shoot3 {j r n s : Nat} {p q : Int32} {M : mS} {K : Int32 → mS → Prop} (hj : j < 8) (h4 : M.ia 4 j = 1) (h5 : M.ia 5 j = nI r) (hr : r < 512) (h1 : M.ia 1 r = nI s) (hs : s < 8) (h2 : M.ia 2 r = nI n) (hn : n ≤ 24)
    (k3 : s < 5 → K 3 ((((((M.si 23 0).si 19 0).si 20 0).si 18 3).si 19 0).si 20 0)) (k4 : 5 ≤ s → (p < 0 ∨ nI n ≤ p) → K 4 (((((M.si 23 0).si 19 0).si 20 0).si 18 4).si 20 0))
    (k0 : 5 ≤ s → ∀ t, t < n → p = nI t → K 0 (((((((((M.si 23 0).si 19 0).si 20 0).sl 3 (24 * r + t) (-1)).si 16 0).si 18 0).si 19 0).si 20 0))) : wp_X2_shoot (nI j) p 3 q M K := by
  unfold wp_X2_shoot
  refine w2beg (br_f (by decide) (br_t (by decide) (w2nr0 hj h4 (br_t (by decide) ?_))))
  rw [ck (by omega)]
  refine ⟨vp_in_nI hj (by decide), ?_⟩
  have g5 : (((M.si 23 0).si 19 0).si 20 0).ia 5 j = nI r := h5
  have g1 : (((M.si 23 0).si 19 0).si 20 0).ia 1 r = nI s := h1
  have g2 : (((M.si 23 0).si 19 0).si 20 0).ia 2 r = nI n := h2
  rw [g5, ck (by omega), g1, g2]
  refine ⟨vp_in_nI (by omega) (by decide), w2num (by omega) (fun c => br_t rfl (br_t (by decide) ?_)) (fun c => br_f (by decide) (w2told (by decide) (by decide) (k3 c)))⟩
  by_cases c0 : p < 0
  · exact br_t c0 (w2told4 (k4 c (Or.inl c0)))
  refine br_f c0 ⟨vp_in_nI (by omega) (by decide), ?_⟩
  rcases pk_ix p (n := n) (by omega) with z | z | ⟨t, ht, rfl⟩
  · exact absurd z c0
  · exact br_f (nI_lt_n (Or.inr z) c0) (w2told4 (k4 c (Or.inr z)))
  refine br_t (nI_lt ht (by omega)) ⟨vp_in_nI (by omega) (by decide), ?_⟩
  rw [e24, ck (by omega)]
  refine w2num (by omega) (fun c5 => br_p rfl (br_f (by decide) (br_n (by decide) ⟨vp_in_nI (by omega) (by decide), w2told (by decide) (by decide) (k0 c t ht rfl)⟩))) (fun c5 => absurd c (by omega))
/-- shoot of kind d < 3, of the reference -/
theorem w2shootN {j r n s d Sh : Nat} {p q : Int32} {M : mS} {K : Int32 → mS → Prop} (hj : j < 8) (h4 : M.ia 4 j = 1) (h5 : M.ia 5 j = nI r) (hr : r < 512) (h1 : M.ia 1 r = nI s) (hs : s < 8) (h2 : M.ia 2 r = nI n) (hn : n ≤ 24) (hd : d < 3) (hS : M.fi 10 = nI Sh) (hSh : Sh < 512) (hk : ∀ k, k < Sh → ∃ d, d < 3 ∧ M.ia 8 k = nI d)
    (k3 : s < 5 → K 3 ((((((M.si 23 0).si 19 0).si 20 0).si 18 3).si 19 0).si 20 0))
    (k4 : 5 ≤ s → (p < 0 ∨ nI n ≤ p) → K 4 ((((((((M.si 23 0).si 19 0).si 20 0).sa 8 Sh (nI d)).sa 7 Sh q).si 10 (nI (Sh + 1))).si 18 4).si 20 0))
    (k5 : 5 ≤ s → ∀ t, t < n → p = nI t → bV s (enc Sh (nI d) q) = 0 → K 5 ((((((((M.si 23 0).si 19 0).si 20 0).sa 8 Sh (nI d)).sa 7 Sh q).si 10 (nI (Sh + 1))).si 18 5).si 19 0))
    (k0 : 5 ≤ s → ∀ t, t < n → p = nI t → ¬ bV s (enc Sh (nI d) q) = 0 → K 0 (((((((((((M.si 23 0).si 19 0).si 20 0).sa 8 Sh (nI d)).sa 7 Sh q).si 10 (nI (Sh + 1))).sl 3 (24 * r + t) (lN Sh)).si 16 0).si 18 0).si 19 0).si 20 0)) : wp_X2_shoot (nI j) p (nI d) q M K := by
  unfold wp_X2_shoot
  refine w2beg (br_f (nI_pos (by omega)) (br_t (nI_le (b := 3) (by omega) (by decide)) (w2nr0 hj h4 (br_t (by decide) ?_))))
  rw [ck (by omega)]
  refine ⟨vp_in_nI hj (by decide), ?_⟩
  have g5 : (((M.si 23 0).si 19 0).si 20 0).ia 5 j = nI r := h5
  have g1 : (((M.si 23 0).si 19 0).si 20 0).ia 1 r = nI s := h1
  have g2 : (((M.si 23 0).si 19 0).si 20 0).ia 2 r = nI n := h2
  have g10 : (((M.si 23 0).si 19 0).si 20 0).fi 10 = nI Sh := hS
  rw [g5, ck (by omega), g1, g2, g10]
  refine ⟨vp_in_nI (by omega) (by decide), w2num (by omega) (fun c => br_t rfl (br_f (nI_ge (a := d) (b := 3) (by omega) (by decide)) ?_)) (fun c => br_f (by decide) (w2told (by decide) (by decide) (k3 c)))⟩
  rw [ck (by omega), nI_1]
  refine ⟨vp_in_nI (by omega) (by decide), vp_in_nI (by omega) (by decide), ?_⟩
  by_cases c0 : p < 0
  · exact br_t c0 (w2told4 (k4 c (Or.inl c0)))
  refine br_f c0 ⟨vp_in_nI (by omega) (by decide), ?_⟩
  rcases pk_ix p (n := n) (by omega) with z | z | ⟨t, ht, rfl⟩
  · exact absurd z c0
  · exact br_f (nI_lt_n (Or.inr z) c0) (w2told4 (k4 c (Or.inr z)))
  refine br_t (nI_lt ht (by omega)) ⟨vp_in_nI (by omega) (by decide), ?_⟩
  rw [e24, ck (by omega), nI_l (by omega)]
  refine w2bears (x := enc Sh (nI d) q) (sn := upd (M.ia 7) Sh q) (sk := upd (M.ia 8) Sh (nI d)) (Sh := Sh + 1) hs (fun k hk' => ?_) (by omega) (fun _ => Or.inr ⟨Sh, by omega, rfl, by rw [pk_us, pk_us]⟩) rfl ?_
  · by_cases e : k = Sh
    · exact ⟨d, hd, by rw [e, pk_us]⟩
    · rw [pk_un e]; exact hk k (by omega)
  refine ⟨fun c1 => ⟨vp_in_nI (by omega) (by decide), w2told (by decide) (by decide) (k0 c t ht rfl c1)⟩, fun c1 => w2told5 (k5 c t ht rfl c1)⟩
theorem sim_shoot {i : Nat} {C : cS} {M : mS} (h : Rel i C M) (hi5 : i < 512) (p0 p1 p2 p3 : Int32) : wp_X1_shoot p0 p1 p2 p3 C (fun r1 C' => wp_X2_shoot p0 p1 p2 p3 M (fun r2 M' => r1 = r2 ∧ Rel (i + 1) C' M')) := by
  have h6 : ∀ {c : Int32}, Rel (i + 1) (((C.si 7 c).si 8 0).si 9 0) ((((((M.si 23 0).si 19 0).si 20 0).si 18 c).si 19 0).si 20 0) := rel_6 h
  have h4' : Rel (i + 1) (((C.si 7 4).si 8 0).si 9 0) (((((M.si 23 0).si 19 0).si 20 0).si 18 4).si 20 0) := rel_tell (rel0_up (Nat.le_succ i) h.1) ⟨rfl, rfl⟩ ⟨rfl, rfl, rfl, rfl, rfl, rfl, rfl, rfl, rfl⟩ rfl rfl rfl
  unfold wp_X1_shoot
  by_cases c1 : p2 < 0
  · exact br_t c1 (w1set (w2beg (br_t c1 (w2told (by decide) (by decide) ⟨rfl, h6⟩))))
  refine br_f c1 ?_
  by_cases c2 : ¬ p2 ≤ (3 : Int32)
  · exact br_f c2 (w1set (w2beg (br_f c1 (br_f c2 (w2told (by decide) (by decide) ⟨rfl, h6⟩)))))
  have c2 := Classical.not_not.mp c2
  refine br_t c2 ?_
  obtain ⟨⟨id, R, T, Sh, cn, bc, ⟨i1, i2, i3⟩, ⟨n1, n2, n3, n4, n5, n6, n7, n8, n9, n10, n11, n12, n13⟩, hL, hP, hS, hB⟩, hr⟩ := h
  rcases spCase hP hS p0 with hb | ⟨j, hj, rfl, h1, h2⟩ | ⟨j, a, b, n, hj, rfl, h1, h2, h3, h4, h5, hl⟩ | ⟨j, a, b, n, s, hj, rfl, h1, h2, h3, h4, h5, hs, hl⟩
  · exact w1rf6 hb (br_f (by decide) (br_f (by decide) (w1set (w2beg (br_f c1 (br_t c2 (w2nr6 hb (br_f (by decide) (w2told (by decide) (by decide) ⟨rfl, h6⟩)))))))))
  · exact w1rf1 hj h1 (br_f (by decide) (br_f (by decide) (w1set (w2beg (br_f c1 (br_t c2 (w2nr1 hj h2 (br_f (by decide) (w2told (by decide) (by decide) ⟨rfl, h6⟩)))))))))
  · exact w1rf2 hj h1 h2 h3 (br_f (by decide) (br_f (by decide) (w1set (w2beg (br_f c1 (br_t c2 (w2nr2 hj h4 (br_f (by decide) (w2told (by decide) (by decide) ⟨rfl, h6⟩)))))))))
  have hl2 := hl
  obtain ⟨l1, l2, l3, l4, l5, l6, l7, l8⟩ := hl2
  obtain ⟨k1, k2, k3, k4, k5⟩ := l8 hs
  obtain ⟨d, hd, rfl⟩ := nI_of2 (M := 3) (n := 3) (by decide) c1 c2
  have f5 : (if s < 5 then (1 : Int32) else 0) = 0 → 5 ≤ s := by
    intro q
    by_cases c : s < 5
    · rw [if_pos c] at q; exact absurd q (by decide)
    · omega
  by_cases d3 : d = 3
  · subst d3
    refine w1rf hj h1 h2 h3 l1 l2 l3 l4 l6 hs (fun q => ?_) (fun q z => ?_) (fun q t ht e => ?_)
    · have q5 : s < 5 := Nat.lt_of_not_le fun c => q (if_neg (by omega))
      exact br_f (by decide) (br_f (by decide) (w1set (w2shoot3 hj h4 h5 (by omega) k3 hs k4 l4 (fun _ => ⟨rfl, h6⟩) (fun c => absurd q5 (by omega)) (fun c => absurd q5 (by omega)))))
    · have q5 := f5 q
      refine br_f (by decide) (br_t rfl (br_p rfl (br_p rfl (w1set (w2shoot3 hj h4 h5 (by omega) k3 hs k4 l4 (fun c => absurd q5 (by omega)) (fun _ _ => ⟨rfl, h4'⟩) (fun _ t ht e => ?_))))))
      subst e
      rcases z with z | z
      · exact absurd z (nI_pos (by omega))
      · exact absurd z (nI_ge ht (by omega))
    · have q5 := f5 q
      subst e
      refine br_t rfl (br_p rfl (br_n (by decide) ⟨vp_in_nI hj (by decide), ?_⟩))
      rw [ck (by omega), ck (by omega)]
      refine ⟨fun e' => (by rw [h1] at e'; cases e'), fun y e' => ?_⟩
      have ey : y = a := by rw [h1] at e'; cases e'; rfl
      subst ey
      rw [l6]
      refine ⟨h2, w1bears hs ?_⟩
      have eb : bV s 0 = 1 := by unfold bV; rw [if_neg (by omega), if_pos rfl]
      rw [eb]
      refine br_n (by decide) ⟨h2, b, l1, l2, by rw [l3]; exact vp_in_nI ht (by omega), w1emp (w1set (w2shoot3 hj h4 h5 (by omega) k3 hs k4 l4 (fun c => absurd q5 (by omega)) (fun _ z => ?_) (fun _ t' ht' e => ⟨rfl, ?_⟩)))⟩
      · rcases z with z | z
        · exact absurd z (nI_pos (by omega))
        · exact absurd z (nI_ge ht (by omega))
      · have et : t' = t := ((nI_eq (by omega) (by omega)).mp e).symm
        subst et
        have hP' := pool_upd (g := vp_updL (C.ar b) t' 0) (ce' := vp_updL (M.la 3) (24 * id y + t') (-1)) hP h2 hl hs (fun j' hj' => by
          by_cases e' : j' = t'
          · subst e'
            rw [pk_uLs, pk_uLs]
            exact ⟨fun c => absurd q5 (by omega), fun c => Or.inl ⟨rfl, rfl⟩⟩
          · rw [pk_uLn e', pk_uLn (by omega)]
            exact k5 j' hj') (fun x hx => pk_uLn (by omega))
        exact rel_tell (C := (((C.sal b t' 0).sbr none).si 5 0).si 6 0) (M := (M.sl 3 (24 * id y + t') (-1)).si 16 0) ⟨id, R, T, Sh, cn, 0, ⟨by omega, by omega, by omega⟩, ⟨n1, n2, n3, n4, n5, n6, n7, n8, rfl, rfl, by omega, n12, n13⟩, hL, hP', hS, Or.inl ⟨rfl, rfl⟩⟩ ⟨rfl, rfl⟩ ⟨rfl, rfl, rfl, rfl, rfl, rfl, rfl, rfl, rfl⟩ rfl rfl rfl
  have hd : d < 3 := by omega
  have ne3 : ¬ nI d = (3 : Int32) := fun q => d3 ((nI_eq (b := 3) (by omega) (by decide)).mp q)
  have hP1 := pool_shot (nb := p3) hP hd
  have hB1 := bin_shot (nb := p3) (kv := nI d) hB
  have e13 : C.fi 13 + 1 = nI (Sh + 1) := by rw [n4, nI_1]
  have hR1 : Rel0 (i + 1) (C.si 13 (nI (Sh + 1))) (((M.sa 8 Sh (nI d)).sa 7 Sh p3).si 10 (nI (Sh + 1))) := ⟨id, R, T, Sh + 1, cn, bc, ⟨by omega, by omega, by omega⟩, ⟨n1, n2, n3, rfl, rfl, n6, n7, n8, n9, n10, n11, n12, n13⟩, hL, hP1, hS, hB1⟩
  have shot : ∀ {K : Int64 → cS → Prop}, K (enc Sh (nI d) p3) (C.si 13 (nI (Sh + 1))) → wp_X1_newShot (nI d) p3 C K := by
    intro K k
    show K ((((((C.fi 13 + 1).toInt64 <<< (((34 : Int32)).toInt64 &&& 63)) ||| ((nI d).toInt64 <<< (((32 : Int32)).toInt64 &&& 63))) ||| (p3.toInt64 &&& (4294967295 : Int64))))) (C.si 13 (C.fi 13 + 1))
    rw [e13]
    exact k
  have hk8 := hP.2.2.2
  refine w1rf hj h1 h2 h3 l1 l2 l3 l4 l6 hs (fun q => ?_) (fun q z => ?_) (fun q t ht e => ?_)
  · have q5 : s < 5 := Nat.lt_of_not_le fun c => q (if_neg (by omega))
    exact br_f (by decide) (br_f (by decide) (w1set (w2shootN hj h4 h5 (by omega) k3 hs k4 l4 hd n5 (by omega) hk8 (fun _ => ⟨rfl, h6⟩) (fun c => absurd q5 (by omega)) (fun c => absurd q5 (by omega)) (fun c => absurd q5 (by omega)))))
  · have q5 := f5 q
    have no : ∀ t, t < n → p1 = nI t → False := by
      intro t ht e
      subst e
      rcases z with z | z
      · exact nI_pos (by omega) z
      · exact nI_ge ht (by omega) z
    exact br_f (by decide) (br_t rfl (br_n ne3 (shot (br_p rfl (w1set (w2shootN hj h4 h5 (by omega) k3 hs k4 l4 hd n5 (by omega) hk8 (fun c => absurd q5 (by omega)) (fun _ _ => ⟨rfl, rel_tell hR1 ⟨rfl, rfl⟩ ⟨rfl, rfl, rfl, rfl, rfl, rfl, rfl, rfl, rfl⟩ rfl rfl rfl⟩) (fun _ t ht e => (no t ht e).elim) (fun _ t ht e => (no t ht e).elim)))))))
  · have q5 := f5 q
    subst e
    have no : (nI t < 0 ∨ nI n ≤ nI t) → False := by
      rintro (z | z)
      · exact nI_pos (by omega) z
      · exact nI_ge ht (by omega) z
    refine br_t rfl (br_n ne3 (shot (br_n (by decide) ⟨vp_in_nI hj (by decide), ?_⟩)))
    rw [ck (by omega), ck (by omega)]
    refine ⟨fun e' => absurd (e'.symm.trans h1) (by simp), fun y e' => ?_⟩
    have ey : y = a := Option.some.inj (e'.symm.trans h1)
    subst ey
    refine ⟨h2, ?_⟩
    show wp_X1_bears (C.so y) (enc Sh (nI d) p3) _
    rw [l6]
    refine w1bears hs ⟨fun cb => ⟨h2, b, l1, l2, ?_, w1emp (w1set (w2shootN hj h4 h5 (by omega) k3 hs k4 l4 hd n5 (by omega) hk8 (fun c => absurd q5 (by omega)) (fun _ z => (no z).elim) (fun _ t' ht' e c => absurd c cb) (fun _ t' ht' e _ => ⟨rfl, ?_⟩)))⟩, fun cb => w1set (w2shootN hj h4 h5 (by omega) k3 hs k4 l4 hd n5 (by omega) hk8 (fun c => absurd q5 (by omega)) (fun _ z => (no z).elim) (fun _ t' ht' e c => ⟨rfl, rel_tell hR1 ⟨rfl, rfl⟩ ⟨rfl, rfl, rfl, rfl, rfl, rfl, rfl, rfl, rfl⟩ rfl rfl rfl⟩) (fun _ t' ht' e c => absurd cb c))⟩
    · show vp_in (nI t) (C.ln b)
      rw [l3]; exact vp_in_nI ht (by omega)
    · have et : t' = t := ((nI_eq (by omega) (by omega)).mp e).symm
      subst et
      have hl1 : lR C.L C.kd C.so C.nu C.fr C.ln C.ar (M.ia 1) (M.ia 2) (M.ia 6) (upd (M.ia 7) Sh p3) (upd (M.ia 8) Sh (nI d)) (M.la 3) id R T (Sh + 1) y b n s := ⟨l1, l2, l3, l4, l5, l6, l7, fun h8 => ⟨k1, k2, k3, k4, fun j' hj' => fR_mono (k5 j' hj')⟩⟩
      have hP' := pool_upd (g := vp_updL (C.ar b) t' (enc Sh (nI d) p3)) (ce' := vp_updL (M.la 3) (24 * id y + t') (lN Sh)) hP1 h2 hl1 hs (fun j' hj' => by
        by_cases e' : j' = t'
        · subst e'
          rw [pk_uLs, pk_uLs]
          exact ⟨fun c => absurd q5 (by omega), fun c => Or.inr ⟨Sh, by omega, rfl, by rw [pk_us, pk_us]⟩⟩
        · rw [pk_uLn e', pk_uLn (by omega)]
          exact fR_mono (k5 j' hj')) (fun x hx => pk_uLn (by omega))
      exact rel_tell (C := ((((C.si 13 (nI (Sh + 1))).sal b t' (enc Sh (nI d) p3)).sbr none).si 5 0).si 6 0) (M := (((((M.sa 8 Sh (nI d)).sa 7 Sh p3).si 10 (nI (Sh + 1))).sl 3 (24 * id y + t') (lN Sh)).si 16 0)) ⟨id, R, T, Sh + 1, cn, 0, ⟨by omega, by omega, by omega⟩, ⟨n1, n2, n3, rfl, rfl, n6, n7, n8, rfl, rfl, by omega, n12, n13⟩, hL, hP', hS, Or.inl ⟨rfl, rfl⟩⟩ ⟨rfl, rfl⟩ ⟨rfl, rfl, rfl, rfl, rfl, rfl, rfl, rfl, rfl⟩ rfl rfl rfl
end Ops9
