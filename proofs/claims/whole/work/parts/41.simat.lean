section SimAt
theorem lN_ne_m1 {k : Nat} (hk : k < 513) : ¬ (-1 : Int64) = lN k := by
  intro e
  have h : (0 : Int64) ≤ lN k := (pk_lLE (a := 0) (b := k) (by omega) (by omega)).mpr (Nat.zero_le _)
  rw [← e] at h
  exact absurd h (by decide)
theorem rel_232 {i : Nat} {C : cS} {M : mS} (h : Rel i C M) (a b : Int32) : Rel (i + 1) C ((M.si 23 a).si 23 b) :=
  ⟨rel0_of (rel0_up (Nat.le_succ i) h.1) ⟨rfl, rfl, rfl, rfl, rfl, rfl, rfl, rfl, rfl, rfl, rfl⟩ ⟨rfl, rfl, rfl, rfl, rfl, rfl, rfl⟩ ⟨rfl, rfl, rfl, rfl, rfl, rfl, rfl, rfl, rfl, rfl⟩ ⟨rfl, rfl, rfl, rfl, rfl, rfl, rfl, rfl, rfl⟩, h.2⟩
/-- the reference's at() where a reel lies and the frame is there -/
theorem w2at {j r n s t : Nat} {M : mS} {K : Int64 → mS → Prop} (hj : j < 8) (h4 : M.ia 4 j = 1) (h5 : M.ia 5 j = nI r) (hr : r < 512) (h1 : M.ia 1 r = nI s) (hs : s < 8) (h2 : M.ia 2 r = nI n) (hn : n ≤ 24) (ht : t < n)
    (k1 : s < 5 → K (M.la 3 (24 * r + t)) ((M.si 23 0).si 23 0)) (k2 : 5 ≤ s → M.la 3 (24 * r + t) = -1 → K (-1) ((M.si 23 0).si 23 0))
    (k3 : 5 ≤ s → ∀ k, k < 513 → M.la 3 (24 * r + t) = lN k → K (4 * (M.ia 7 k).toInt64 + (M.ia 8 k).toInt64) ((M.si 23 0).si 23 0)) (hy : 5 ≤ s → M.la 3 (24 * r + t) = -1 ∨ ∃ k, k < 512 ∧ M.la 3 (24 * r + t) = lN k) : wp_X2_at (nI j) (nI t) M K := by
  unfold wp_X2_at
  refine w2nr0 hj h4 (br_t (by decide) ⟨vp_in_nI hj (by decide), br_f (nI_pos (by omega)) ?_⟩)
  rw [ck (j := j) (by omega), h5, ck (j := r) (by omega), h2, h1, e24, ck (j := 24 * r + t) (by omega)]
  refine ⟨vp_in_nI (by omega) (by decide), br_t (nI_lt ht (by omega)) ⟨vp_in_nI (by omega) (by decide), vp_in_nI (by omega) (by decide), w2num (by omega) (fun q => br_t rfl ?_) (fun q => br_f (by decide) (k1 q))⟩⟩
  rcases hy q with e | ⟨k, hk, e⟩
  · have k2' := k2 q e
    rw [e]
    exact br_f (by decide) k2'
  · have k3' := k3 q k (by omega) e
    rw [e, lN_i, ck (j := k) (by omega)]
    refine br_t ?_ ⟨vp_in_nI (by omega) (by decide), vp_in_nI (by omega) (by decide), k3'⟩
    exact (pk_lLE (a := 0) (b := k) (by omega) (by omega)).mpr (Nat.zero_le _)
theorem w2atX {j r n : Nat} {p : Int32} {M : mS} {K : Int64 → mS → Prop} (hj : j < 8) (h4 : M.ia 4 j = 1) (h5 : M.ia 5 j = nI r) (hr : r < 513) (h2 : M.ia 2 r = nI n) (hp : p < 0 ∨ nI n ≤ p)
    (k : K 0 ((M.si 23 0).si 23 2)) : wp_X2_at (nI j) p M K := by
  unfold wp_X2_at
  refine w2nr0 hj h4 (br_t (by decide) ⟨vp_in_nI hj (by decide), ?_⟩)
  by_cases c : p < 0
  · exact br_t c k
  refine br_f c ?_
  rw [ck (j := j) (by omega), h5, ck (j := r) (by omega), h2]
  exact ⟨vp_in_nI hr (by decide), br_f (nI_lt_n hp c) k⟩
theorem sim_at {i : Nat} {C : cS} {M : mS} (h : Rel i C M) (hi5 : i < 512) (p0 p1 : Int32) : wp_X1_at p0 p1 C (fun v C' => wp_X2_at p0 p1 M (fun b M' => M'.fi 23 = 0 ∧ v = b ∧ Rel (i + 1) C' M'))
    (fun E C' => (E = exS ∧ wp_X2_at p0 p1 M (fun _ M' => M'.fi 23 = 1 ∧ Rel (i + 1) C' M')) ∨ (E = exX ∧ wp_X2_at p0 p1 M (fun _ M' => M'.fi 23 = 2 ∧ Rel (i + 1) C' M'))) := by
  have h23 := rel_23 h 1
  have hz := rel_232 h 0
  obtain ⟨⟨id, R, T, Sh, cn, bc, ⟨i1, i2, i3⟩, hN, hL, hP, hS, hB⟩, hr⟩ := h
  unfold wp_X1_at
  rcases spCase hP hS p0 with hb | ⟨j, hj, rfl, h1, h2⟩ | ⟨j, a, b, n, hj, rfl, h1, h2, h3, h4, h5, hl⟩ | ⟨j, a, b, n, s, hj, rfl, h1, h2, h3, h4, h5, hs, hl⟩
  · exact w1ld0 hb ⟨fun _ => Or.inl ⟨rfl, w2nr6 hb (br_f (by decide) ⟨rfl, h23⟩)⟩, fun y e => by cases e⟩
  · refine w1ld1 hj ?_
    rw [h1]
    exact ⟨fun _ => Or.inl ⟨rfl, w2nr1 hj h2 (br_f (by decide) ⟨rfl, h23⟩)⟩, fun y e => by cases e⟩
  · refine w1ld1 hj ?_
    rw [h1]
    refine ⟨fun e => (by cases e), fun y e => ?_⟩
    cases e
    exact ⟨h2, br_p h3 (Or.inl ⟨rfl, w2nr2 hj h4 (br_f (by decide) ⟨rfl, h23⟩)⟩)⟩
  · obtain ⟨l1, l2, l3, l4, l5, l6, l7, l8⟩ := hl
    obtain ⟨k1, k2, k3, k4, k5⟩ := l8 hs
    refine w1ld1 hj ?_
    rw [h1]
    refine ⟨fun e => (by cases e), fun y e => ?_⟩
    cases e
    refine ⟨h2, br_n h3 ?_⟩
    by_cases c : p1 < 0
    · exact br_t c (Or.inr ⟨rfl, w2atX hj h4 h5 (by omega) k4 (Or.inl c) ⟨rfl, hz 2⟩⟩)
    refine br_f c ⟨h2, b, l1, l2, ?_⟩
    rw [l3]
    rcases pk_ix p1 (n := n) (by omega) with z | z | ⟨t, ht, rfl⟩
    · exact absurd z c
    · exact br_f (nI_lt_n (Or.inr z) c) (Or.inr ⟨rfl, w2atX hj h4 h5 (by omega) k4 (Or.inr z) ⟨rfl, hz 2⟩⟩)
    · refine br_t (nI_lt ht (by omega)) ⟨h2, b, l1, l2, (by rw [l3]; exact vp_in_nI ht (by omega)), h2, ?_⟩
      rw [l6, ck (j := t) (by omega)]
      obtain ⟨f1, f2⟩ := k5 t ht
      have hy : 5 ≤ s → M.la 3 (24 * id a + t) = -1 ∨ ∃ k, k < 512 ∧ M.la 3 (24 * id a + t) = lN k := by
        intro q
        rcases f2 q with ⟨-, e⟩ | ⟨k, hk, e, -⟩
        · exact Or.inl e
        · exact Or.inr ⟨k, by omega, e⟩
      refine w1num (by omega) (fun q => br_t rfl ?_) (fun q => br_f (by decide) ?_)
      · rcases f2 q with ⟨e1, e2⟩ | ⟨k, hk, e1, e2⟩
        · refine br_p e1 (w2at hj h4 h5 (by omega) k3 hs k4 l4 ht (fun q' => absurd q' (by omega)) (fun _ _ => ⟨rfl, rfl, hz 0⟩) (fun _ k' hk' e' => ?_) hy)
          rw [e2] at e'
          exact absurd e' (lN_ne_m1 hk')
        · obtain ⟨d, hd, hsk⟩ := hP.2.2.2 k hk
          have e3 : C.ar b t = enc k (nI d) (M.ia 7 k) := by rw [e2, hsk]
          have ne : ¬ C.ar b t = 0 := by rw [e3]; exact e_ne (by omega) hd _
          refine br_n ne ?_
          unfold wp_X1_numberOf wp_X1_kindOf
          have ek : (((((C.ar b t).toUInt64 >>> (((32 : Int32)).toInt64.toUInt64 &&& Int64.toUInt64 63)).toInt64).toInt32 &&& (3 : Int32))) = nI d := by
            have := e_kof (k := k) (d := d) (by omega) hd (M.ia 7 k)
            rw [← e3] at this
            exact this
          have en : (C.ar b t).toInt32 = M.ia 7 k := by rw [e3]; exact e_num (by omega) hd _
          refine w2at hj h4 h5 (by omega) k3 hs k4 l4 ht (fun q' => absurd q' (by omega)) (fun _ e' => ?_) (fun _ k' hk' e' => ⟨rfl, ?_, hz 0⟩) hy
          · rw [e1] at e'
            exact absurd e'.symm (lN_ne_m1 (by omega))
          · have : k' = k := ((pk_lEQ (by omega) (by omega)).mp (e'.symm.trans e1))
            subst this
            rw [ek, en, hsk]
      · refine w2at hj h4 h5 (by omega) k3 hs k4 l4 ht (fun _ => ⟨rfl, f1 q, hz 0⟩) (fun q' => absurd q' (by omega)) (fun q' => absurd q' (by omega)) hy
end SimAt
