section Spl5
/-- a splice in which g > 0 frames went -/
theorem rel0_went {i : Nat} {C : cS} {M : mS} {id : Nat → Nat} {R T Sh cn bc : Nat} (hi : R ≤ i ∧ T ≤ i ∧ Sh ≤ i) (hN : Num C.fi M.fi R T Sh cn bc) (hL : ∀ j, j < 5 * cn → C.cu j = M.ia 9 j) (hP : PoolC C M id R T Sh) (hS : Spn C.sp C.L C.kd C.so (M.ia 4) (M.ia 5) id)
    {a0 b0 n0 s0 a1 b1 n1 s1 t m q g : Nat} (h20 : C.ld a0) (hs0 : s0 < 8) (hl0 : lRC C M id R T Sh a0 b0 n0 s0) (h21 : C.ld a1) (hs1 : s1 < 8) (hl1 : lRC C M id R T Sh a1 b1 n1 s1) (un : s0 = s1 ∨ (5 ≤ s0 ∧ 5 ≤ s1)) (htm : t + m ≤ n0) (hq : q + m ≤ n1) (hg : g ≤ m) :
    Rel0 i ((((((C.cpb b1 q 0 g).sbr (some a1)).si 5 (nI q)).si 6 (nI g)).cpp b0 b1 t q g).si 12 (C.fi 12 + nI g))
      ((((((M.si 14 (nI (id a1))).si 15 (nI q)).si 16 (nI g)).stl 10 (va_cpy (M.la 3) (M.la 10) (24 * id a1 + q) 0 g)).stl 3 (va_cpy (va_cpy (M.la 3) (M.la 11) (24 * id a0 + t) 0 g) (M.la 3) 0 (24 * id a1 + q) g)).si 22 (M.fi 22 + nI g)) := by
  obtain ⟨n1', n2, n3, n4, n5, n6, n7, n8, n9, n10, n11, n12, n13⟩ := hN
  have hl0' := hl0
  have hl1' := hl1
  obtain ⟨l1, l2, l3, l4, l5, l6, l7, l8⟩ := hl0'
  obtain ⟨m1, m2, m3, m4, m5, m6, m7, m8⟩ := hl1'
  obtain ⟨k1, k2, k3, k4, k5⟩ := l8 hs0
  obtain ⟨z1, z2, z3, z4, z5⟩ := m8 hs1
  have hP' := pool_upd (g := va_cpy (C.ar b0) (C.ar b1) t q g) (ce' := va_cpy (va_cpy (M.la 3) (M.la 11) (24 * id a0 + t) 0 g) (M.la 3) 0 (24 * id a1 + q) g) hP h21 hl1 hs1 (fun j hj => by
    by_cases e : q ≤ j ∧ j < q + g
    · rw [pk_cpy_in e.1 e.2, pk_cpy_in (by omega) (by omega), pk_cpy_in (by omega) (by omega), show 24 * id a0 + t + (0 + (24 * id a1 + j - (24 * id a1 + q)) - 0) = 24 * id a0 + (t + (j - q)) by omega]
      exact fR_like un (k5 _ (by omega))
    · rw [pk_cpy_out (by omega), pk_cpy_out (by omega)]
      exact z5 j hj) (fun x hx => pk_cpy_out (by omega))
  have hB' : Bin (some a1) (nI q) (nI (id a1)) (nI q) (va_cpy (C.ar b1) C.bf q 0 g) (va_cpy (M.la 3) (M.la 10) (24 * id a1 + q) 0 g) C.L C.kd C.so C.fr C.ln (M.ia 7) (M.ia 8) id Sh g := by
    refine Or.inr ⟨a1, b1, s1, q, rfl, h21, m6, hs1, m1, rfl, rfl, rfl, by omega, fun j hj => ?_⟩
    rw [pk_cpy_in (by omega) (by omega), pk_cpy_in (by omega) (by omega), show 24 * id a1 + q + (j - 0) = 24 * id a1 + (q + (j - 0)) by omega]
    exact z5 _ (by omega)
  have n13' : C.fi 12 + nI g = M.fi 22 + nI g := by rw [n13]
  exact ⟨id, R, T, Sh, cn, g, hi, ⟨n1', n2, n3, n4, n5, n6, n7, n8, rfl, rfl, by omega, n12, n13'⟩, hL, hP', hS, hB'⟩
/-- what the reference's loop of a splice leaves as it was -/
def gF (M M1 : mS) (tk : Nat → Int64) : Prop := (M1.fi 19 = 0 ∧ M1.fi 20 = 0) ∧ M1.ia = M.ia ∧ (M1.la 3 = M.la 3 ∧ M1.la 10 = M.la 10 ∧ M1.la 11 = tk) ∧ (M1.fi 3 = M.fi 3 ∧ M1.fi 7 = M.fi 7 ∧ M1.fi 10 = M.fi 10 ∧ M1.fi 12 = M.fi 12 ∧ M1.fi 16 = M.fi 16 ∧ M1.fi 21 = M.fi 21 ∧ M1.fi 22 = M.fi 22 ∧ M1.fi 14 = M.fi 14 ∧ M1.fi 15 = M.fi 15)
theorem gE_gF (M : mS) (r t g : Nat) : gF M (gE (((M.si 19 0).si 20 0).si 19 0) r t g) (va_cpy (M.la 3) (M.la 11) (24 * r + t) 0 g) :=
  ⟨⟨rfl, rfl⟩, rfl, ⟨rfl, rfl, rfl⟩, rfl, rfl, rfl, rfl, rfl, rfl, rfl, rfl, rfl⟩
theorem rel0_gF {i : Nat} {C : cS} {M M1 : mS} {tk : Nat → Int64} (h : Rel0 i C M) (hf : gF M M1 tk) : Rel0 i C M1 := by
  obtain ⟨-, f2, ⟨f3, f4, -⟩, f6⟩ := hf
  refine rel0_of h ⟨rfl, rfl, rfl, rfl, rfl, rfl, rfl, rfl, rfl, rfl, rfl⟩ ⟨rfl, rfl, rfl, rfl, rfl, rfl, rfl⟩ ?_ f6
  rw [f2, f3, f4]
  exact ⟨rfl, rfl, rfl, rfl, rfl, rfl, rfl, rfl, rfl, rfl⟩
theorem rel0_gE2 {i : Nat} {C0 : cS} {M M1 : mS} {tk : Nat → Int64} {r2 q g : Nat} (hf : gF M M1 tk) (h : Rel0 i C0 ((((((M.si 14 (nI r2)).si 15 (nI q)).si 16 (nI g)).stl 10 (va_cpy (M.la 3) (M.la 10) (24 * r2 + q) 0 g)).stl 3 (va_cpy tk (M.la 3) 0 (24 * r2 + q) g)).si 22 (M.fi 22 + nI g))) : Rel0 i C0 (gE2 M1 r2 q g) := by
  obtain ⟨-, f2, ⟨f3, f4, f5⟩, g1, g2, g3, g4, g5, g6, g7, g8, g9⟩ := hf
  refine rel0_of h ⟨rfl, rfl, rfl, rfl, rfl, rfl, rfl, rfl, rfl, rfl, rfl⟩ ⟨rfl, rfl, rfl, rfl, rfl, rfl, rfl⟩ ?_ ?_
  · show M1.ia 1 = M.ia 1 ∧ M1.ia 2 = M.ia 2 ∧ M1.ia 4 = M.ia 4 ∧ M1.ia 5 = M.ia 5 ∧ M1.ia 6 = M.ia 6 ∧ M1.ia 7 = M.ia 7 ∧ M1.ia 8 = M.ia 8 ∧ M1.ia 9 = M.ia 9 ∧ va_cpy (M1.la 11) (M1.la 3) 0 (24 * r2 + q) g = va_cpy tk (M.la 3) 0 (24 * r2 + q) g ∧ va_cpy (M1.la 3) (M1.la 10) (24 * r2 + q) 0 g = va_cpy (M.la 3) (M.la 10) (24 * r2 + q) 0 g
    rw [f2, f3, f4, f5]
    exact ⟨rfl, rfl, rfl, rfl, rfl, rfl, rfl, rfl, rfl, rfl⟩
  · show M1.fi 3 = M.fi 3 ∧ M1.fi 7 = M.fi 7 ∧ M1.fi 10 = M.fi 10 ∧ M1.fi 12 = M.fi 12 ∧ nI g = nI g ∧ M1.fi 21 = M.fi 21 ∧ M1.fi 22 + nI g = M.fi 22 + nI g ∧ nI r2 = nI r2 ∧ nI q = nI q
    rw [g7]
    exact ⟨g1, g2, g3, g4, rfl, g6, rfl, rfl, rfl⟩
theorem rel0_21 {i : Nat} {C : cS} {M : mS} (h : Rel0 i C M) : Rel0 i (C.si 11 (C.fi 11 + 1)) (M.si 21 (M.fi 21 + 1)) := by
  obtain ⟨id, R, T, Sh, cn, bc, hi, ⟨n1, n2, n3, n4, n5, n6, n7, n8, n9, n10, n11, n12, n13⟩, hL, hP, hS, hB⟩ := h
  have n12' : C.fi 11 + 1 = M.fi 21 + 1 := by rw [n12]
  exact ⟨id, R, T, Sh, cn, bc, hi, ⟨n1, n2, n3, n4, n5, n6, n7, n8, n9, n10, n11, n12', n13⟩, hL, hP, hS, hB⟩
theorem ds_fin0 {i : Nat} {C C0 : cS} {M M0 : mS} (h : Rel0 i C0 M0) (h19 : M0.fi 19 = 0) (h20 : M0.fi 20 = 0) (hk : C0.fi 2 = C.fi 2 ∧ C0.cu = C.cu ∧ M0.ia 9 = M.ia 9 ∧ M0.fi 12 = M.fi 12) : dsP i C M 0 (((C0.si 7 0).si 8 0).si 9 0) 0 M0 :=
  ⟨rfl, rel0_of h ⟨rfl, rfl, rfl, rfl, rfl, rfl, rfl, rfl, rfl, rfl, rfl⟩ ⟨rfl, rfl, rfl, rfl, rfl, rfl, rfl⟩ ⟨rfl, rfl, rfl, rfl, rfl, rfl, rfl, rfl, rfl, rfl⟩ ⟨rfl, rfl, rfl, rfl, rfl, rfl, rfl, rfl, rfl⟩, rfl, h19.symm, h20.symm, fun _ => h19, fun _ => h20, Or.inl rfl, hk.1, hk.2.1, hk.2.2.1, hk.2.2.2⟩
theorem ds_fin5 {i : Nat} {C C0 : cS} {M M0 : mS} {x : Int32} (h : Rel0 i C0 M0) (h19 : M0.fi 19 = 0) (hk : C0.fi 2 = C.fi 2 ∧ C0.cu = C.cu ∧ M0.ia 9 = M.ia 9 ∧ M0.fi 12 = M.fi 12) : dsP i C M 5 (((C0.si 7 5).si 8 0).si 9 x) 5 (M0.si 20 x) :=
  ⟨rfl, rel0_of h ⟨rfl, rfl, rfl, rfl, rfl, rfl, rfl, rfl, rfl, rfl, rfl⟩ ⟨rfl, rfl, rfl, rfl, rfl, rfl, rfl⟩ ⟨rfl, rfl, rfl, rfl, rfl, rfl, rfl, rfl, rfl, rfl⟩ ⟨rfl, rfl, rfl, rfl, rfl, rfl, rfl, rfl, rfl⟩, rfl, h19.symm, rfl, fun _ => h19, fun c => absurd rfl c, Or.inr (by decide), hk.1, hk.2.1, hk.2.2.1, hk.2.2.2⟩
end Spl5
