section Ops7
theorem pool_upd {L : List Nat} {kd : Nat → Nat} {so nu : Nat → Int32} {fr : Nat → Option Nat} {ln : Nat → Nat} {ar : Nat → Nat → Int64} {st sz tg sn sk : Nat → Int32} {ce ce' : Nat → Int64} {id : Nat → Nat} {R T Sh a b n s : Nat} {g : Nat → Int64}
    (hP : Pool L kd so nu fr ln ar st sz tg sn sk ce id R T Sh) (ha : a ∈ L ∧ kd a = 0) (hl : lR L kd so nu fr ln ar st sz tg sn sk ce id R T Sh a b n s) (hs : s < 8) (hg : ∀ j, j < n → fR s sn sk Sh (g j) (ce' (24 * id a + j))) (hce : ∀ x, (x < 24 * id a ∨ 24 * id a + 24 ≤ x) → ce' x = ce x) :
    Pool L kd so nu fr ln (va_up ar b g) st sz tg sn sk ce' id R T Sh := by
  obtain ⟨p1, p2, p3, p4⟩ := hP
  obtain ⟨l1, l2, l3, l4, l5, l6, l7, l8⟩ := hl
  refine ⟨fun a' ha' => ?_, p2, p3, p4⟩
  obtain ⟨b0, n0, s0, m1, m2, m3, m4, m5, m6, m7, m8⟩ := p1 a' ha'
  refine ⟨b0, n0, s0, m1, m2, m3, m4, m5, m6, m7, fun h8 => ?_⟩
  obtain ⟨z1, z2, z3, z4, z5⟩ := m8 h8
  by_cases e : a' = a
  · subst e
    have eb : b0 = b := by rw [m1] at l1; cases l1; rfl
    subst eb
    have es : s0 = s := by rw [m6] at l6; exact (nI_eq (by omega) (by omega)).mp l6
    subst es
    have en : n0 = n := by rw [← m3, ← l3]
    subst en
    refine ⟨z1, z2, z3, z4, fun j hj => ?_⟩
    rw [up_s]
    exact hg j hj
  · have hb : b0 ≠ b := fun q => e (p3 a' a ha' ha (by rw [m1, l1, q]))
    have hid : id a' ≠ id a := fun q => e (p2 a' a ha' ha (by
      rw [m6, l6]
      constructor <;> intro w <;> have := (nI_eq (b := 8) (by omega) (by decide)).mp w <;> omega) q)
    refine ⟨z1, z2, z3, z4, fun j hj => ?_⟩
    rw [up_n _ _ hb, hce _ (by omega)]
    exact z5 j hj
theorem w1rf {j a b n s : Nat} {w p : Int32} {C : cS} {K : Int32 → cS → Prop} (hj : j < 8) (h1 : C.sp j = some a) (h2 : C.ld a) (h3 : ¬ C.so a = 8) (l1 : C.fr a = some b) (l2 : C.aw b) (l3 : C.ln b = n) (hn : n ≤ 24) (l6 : C.so a = nI s) (hs : s < 8)
    (k3 : ¬ (if s < 5 then (1 : Int32) else 0) = w → K 3 C) (k4 : (if s < 5 then (1 : Int32) else 0) = w → (p < 0 ∨ nI n ≤ p) → K 4 C) (k0 : (if s < 5 then (1 : Int32) else 0) = w → ∀ t, t < n → p = nI t → K 0 C) : wp_X1_refusalOfFrame (nI j) w p C K := by
  refine w1rr0 hj h1 h2 h3 (br_t rfl ⟨vp_in_nI hj (by decide), ?_⟩)
  rw [ck (by omega)]
  refine ⟨fun e => (by rw [h1] at e; cases e), fun y e => ?_⟩
  have ey : y = a := by rw [h1] at e; cases e; rfl
  subst ey
  rw [l6]
  have main : ∀ r7 : Int32, r7 = (if s < 5 then (1 : Int32) else 0) → ((r7 = w → ((p < 0 → K 4 C) ∧ (¬ p < 0 → (C.ld y ∧ ∃ b10, C.fr y = some b10 ∧ (C.aw b10 ∧ ((p < nI (C.ln b10) → K 0 C) ∧ (¬ p < nI (C.ln b10) → K 4 C))))))) ∧ (¬ r7 = w → K 3 C)) := by
    intro r7 er
    rw [er]
    refine ⟨fun q => ⟨fun c => k4 q (Or.inl c), fun c => ⟨h2, b, l1, l2, ?_⟩⟩, k3⟩
    rw [l3]
    refine ⟨fun c2 => ?_, fun c2 => k4 q (Or.inr ?_)⟩
    · rcases pk_ix p (n := n) (by omega) with z | z | ⟨t, ht, z⟩
      · exact absurd z c
      · rw [i_lt] at c2
        rw [i_le] at z
        omega
      · exact k0 q t ht z
    · rw [i_lt] at c2
      rw [i_le]
      omega
  exact ⟨h2, w1num (by omega) (fun h5 => main 0 (if_neg (by omega)).symm) (fun h5 => main 1 (if_pos h5).symm)⟩
def cut (s : Nat) (v : Int64) : Int64 := if s = 0 then (v.toInt32).toInt64 else if s = 1 then v else if s = 2 then ((v.toInt32).toInt16.toInt32).toInt64 else if s = 3 then v &&& 65535 else if v = 0 then 0 else 1
theorem w1fit {s : Nat} {v : Int64} {K : Int64 → Prop} (hs : s < 5) (k : K (cut s v)) : wp_X1_fitted (nI s) v K := by
  unfold wp_X1_fitted
  rcases (show s = 0 ∨ s = 1 ∨ s = 2 ∨ s = 3 ∨ s = 4 by omega) with rfl | rfl | rfl | rfl | rfl
  · exact ⟨fun _ => k, fun q => absurd q (by decide), fun q => absurd q (by decide), fun q => absurd q (by decide), fun q => absurd q (by decide), fun q => absurd rfl q⟩
  · exact ⟨fun q => absurd q (by decide), fun _ => k, fun q => absurd q (by decide), fun q => absurd q (by decide), fun q => absurd q (by decide), fun _ q => absurd rfl q⟩
  · exact ⟨fun q => absurd q (by decide), fun q => absurd q (by decide), fun _ => k, fun q => absurd q (by decide), fun q => absurd q (by decide), fun _ _ q => absurd rfl q⟩
  · exact ⟨fun q => absurd q (by decide), fun q => absurd q (by decide), fun q => absurd q (by decide), fun _ => by rw [e_char]; exact k, fun q => absurd q (by decide), fun _ _ _ q => absurd rfl q⟩
  · refine ⟨fun q => absurd q (by decide), fun q => absurd q (by decide), fun q => absurd q (by decide), fun q => absurd q (by decide), fun _ => ⟨fun c => ?_, fun c => ?_⟩, fun _ _ _ _ q => absurd rfl q⟩
    · rw [show cut 4 v = 1 from if_neg c] at k; exact k
    · rw [show cut 4 v = 0 from if_pos c] at k; exact k
theorem w2cut {s : Nat} {v : Int64} {K : Int64 → Prop} (hs : s < 5) (k : K (cut s v)) : wp_X2_cutTo (nI s) v K := by
  unfold wp_X2_cutTo
  rcases (show s = 0 ∨ s = 1 ∨ s = 2 ∨ s = 3 ∨ s = 4 by omega) with rfl | rfl | rfl | rfl | rfl
  · exact ⟨fun _ => k, fun q => absurd q (by decide), fun q => absurd q (by decide), fun q => absurd q (by decide), fun q => absurd q (by decide), fun q => absurd rfl q⟩
  · exact ⟨fun q => absurd q (by decide), fun _ => k, fun q => absurd q (by decide), fun q => absurd q (by decide), fun q => absurd q (by decide), fun _ q => absurd rfl q⟩
  · exact ⟨fun q => absurd q (by decide), fun q => absurd q (by decide), fun _ => k, fun q => absurd q (by decide), fun q => absurd q (by decide), fun _ _ q => absurd rfl q⟩
  · exact ⟨fun q => absurd q (by decide), fun q => absurd q (by decide), fun q => absurd q (by decide), fun _ => k, fun q => absurd q (by decide), fun _ _ _ q => absurd rfl q⟩
  · refine ⟨fun q => absurd q (by decide), fun q => absurd q (by decide), fun q => absurd q (by decide), fun q => absurd q (by decide), fun _ => ⟨fun c => ?_, fun c => ?_⟩, fun _ _ _ _ q => absurd rfl q⟩
    · rw [show cut 4 v = 0 from if_pos c] at k; exact k
    · rw [show cut 4 v = 1 from if_neg c] at k; exact k
theorem nI_lt_n {p : Int32} {n : Nat} (h : p < 0 ∨ nI n ≤ p) (h0 : ¬ p < 0) : ¬ p < nI n := by
  rcases h with h | h
  · exact absurd h h0
  · rw [i_lt]
    rw [i_le] at h
    omega
/-- put, of the reference: a reel r of stock s, n frames -/
theorem w2put {j r n s : Nat} {p : Int32} {v : Int64} {M : mS} {K : Int32 → mS → Prop} (hj : j < 8) (h4 : M.ia 4 j = 1) (h5 : M.ia 5 j = nI r) (hr : r < 513) (h1 : M.ia 1 r = nI s) (hs : s < 8) (h2 : M.ia 2 r = nI n) (hn : n ≤ 24)
    (k3 : ¬ s < 5 → K 3 ((((((M.si 23 0).si 19 0).si 20 0).si 18 3).si 19 0).si 20 0)) (k4 : s < 5 → (p < 0 ∨ nI n ≤ p) → K 4 (((((M.si 23 0).si 19 0).si 20 0).si 18 4).si 20 0))
    (k0 : s < 5 → ∀ t, t < n → p = nI t → r < 512 → K 0 (((((((((M.si 23 0).si 19 0).si 20 0).sl 3 (24 * r + t) (cut s v)).si 16 0).si 18 0).si 19 0).si 20 0))) (hr5 : r < 512) : wp_X2_put (nI j) p v M K := by
  unfold wp_X2_put
  refine w2beg (w2nr0 hj h4 (br_t (by decide) ?_))
  rw [ck (by omega)]
  show vp_in (nI j) 8 ∧ vp_in (M.ia 5 j) 513 ∧ wp_X2_isOfNumbers (M.ia 1 (M.ia 5 j).toNatClampNeg) _
  rw [h5, ck (by omega), h1]
  refine ⟨vp_in_nI hj (by decide), vp_in_nI hr (by decide), w2num (by omega) (fun q => br_p rfl (w2told (by decide) (by decide) (k3 (by omega)))) (fun q => br_n (by decide) ?_)⟩
  by_cases c : p < 0
  · exact br_t c (w2told4 (k4 q (Or.inl c)))
  refine br_f c ?_
  show vp_in (M.ia 5 j) 513 ∧ ((p < M.ia 2 (M.ia 5 j).toNatClampNeg → vp_in (M.ia 5 j) 513 ∧ wp_X2_cutTo (M.ia 1 (M.ia 5 j).toNatClampNeg) v (fun r16 => vp_in (24 * M.ia 5 j + p) 12312 ∧ wp_X2_told 0 (((((M.si 23 0).si 19 0).si 20 0).sl 3 (24 * M.ia 5 j + p).toNatClampNeg r16).si 16 0) K)) ∧ (¬ p < M.ia 2 (M.ia 5 j).toNatClampNeg → wp_X2_told 4 (((M.si 23 0).si 19 0).si 20 0) K))
  rw [h5, ck (by omega), h1, h2]
  refine ⟨vp_in_nI hr (by decide), ?_⟩
  rcases pk_ix p (n := n) (by omega) with z | z | ⟨t, ht, rfl⟩
  · exact absurd z c
  · exact br_f (nI_lt_n (Or.inr z) c) (w2told4 (k4 q (Or.inr z)))
  · refine br_t (nI_lt ht (by omega)) ⟨vp_in_nI hr (by decide), w2cut q ⟨?_, ?_⟩⟩
    · rw [e24]; exact vp_in_nI (by omega) (by decide)
    · rw [e24, ck (by omega)]
      exact w2told (by decide) (by decide) (k0 q t ht rfl hr5)
end Ops7
