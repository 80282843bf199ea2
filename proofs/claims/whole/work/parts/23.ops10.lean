section Ops10
def wv (p0 : Int32) (p1 : Int64) (p2 p3 p4 : Int32) : Int32 := if 0 ≤ p0 then (if (0 : Int64) ≤ p1 then (if 0 ≤ p2 then (if p0.toInt64 + p2.toInt64 ≤ p3.toInt64 then (if p1 + p2.toInt64 ≤ p4.toInt64 then 0 else 5) else 4) else 3) else 2) else 1
theorem t64 (x : Int32) : x.toInt64.toInt = x.toInt := Int32.toInt_toInt64 x
theorem p64 (x : Int32) : (0 : Int64) ≤ x.toInt64 ↔ 0 ≤ x := by
  rw [j_le, i_le, t64]
  rfl
theorem w1way {p0 : Int32} {p1 : Int64} {p2 p3 p4 : Int32} {K : Int32 → Prop} (k : K (wv p0 p1 p2 p3 p4)) : wp_X1_wayOut p0 p1 p2 p3 p4 K := by
  unfold wv at k
  unfold wp_X1_wayOut
  refine ⟨fun c => ?_, fun c => by rw [if_neg c] at k; exact k⟩
  rw [if_pos c] at k
  refine ⟨fun c => ?_, fun c => by rw [if_neg c] at k; exact k⟩
  rw [if_pos c] at k
  refine ⟨fun c => ?_, fun c => by rw [if_neg c] at k; exact k⟩
  rw [if_pos c] at k
  refine ⟨fun c => ?_, fun c => by rw [if_neg c] at k; exact k⟩
  rw [if_pos c] at k
  exact ⟨fun c => (by rw [if_pos c] at k; exact k), fun c => by rw [if_neg c] at k; exact k⟩
theorem w2way {p0 : Int32} {p1 : Int64} {p2 p3 p4 : Int32} {K : Int32 → Prop} (k : K (wv p0 p1 p2 p3 p4)) : wp_X2_wayOf p0.toInt64 p1 p2.toInt64 p3 p4 K := by
  unfold wv at k
  unfold wp_X2_wayOf
  refine ⟨fun c => ?_, fun c => by rw [if_neg (fun q => c ((p64 p0).mpr q))] at k; exact k⟩
  rw [if_pos ((p64 p0).mp c)] at k
  refine ⟨fun c => ?_, fun c => by rw [if_neg c] at k; exact k⟩
  rw [if_pos c] at k
  refine ⟨fun c => ?_, fun c => by rw [if_neg (fun q => c ((p64 p2).mpr q))] at k; exact k⟩
  rw [if_pos ((p64 p2).mp c)] at k
  refine ⟨fun c => ?_, fun c => by rw [if_neg c] at k; exact k⟩
  rw [if_pos c] at k
  exact ⟨fun c => (by rw [if_pos c] at k; exact k), fun c => by rw [if_neg c] at k; exact k⟩
theorem wv_rng (p0 : Int32) (p1 : Int64) (p2 p3 p4 : Int32) : wv p0 p1 p2 p3 p4 = 0 ∨ (0 < wv p0 p1 p2 p3 p4 ∧ ¬ wv p0 p1 p2 p3 p4 = 0) := by
  unfold wv
  split
  · split
    · split
      · split
        · split
          · exact Or.inl rfl
          · exact Or.inr ⟨by decide, by decide⟩
        · exact Or.inr ⟨by decide, by decide⟩
      · exact Or.inr ⟨by decide, by decide⟩
    · exact Or.inr ⟨by decide, by decide⟩
  · exact Or.inr ⟨by decide, by decide⟩
theorem i32_lo (x : Int32) : -2147483648 ≤ x.toInt ∧ x.toInt < 2147483648 := ⟨Int32.le_toInt x, Int32.toInt_lt x⟩
theorem add64 {x y : Int64} (h1 : -9223372036854775808 ≤ x.toInt + y.toInt) (h2 : x.toInt + y.toInt < 9223372036854775808) : (x + y).toInt = x.toInt + y.toInt := by
  rw [Int64.toInt_add]
  exact Int.bmod_eq_of_le (by omega) (by omega)
theorem wv_0 {p0 : Int32} {p1 : Int64} {p2 p4 : Int32} {a : Nat} (ha : a ≤ 24) (hp : -1000000000000 < p1.toInt ∧ p1.toInt < 1000000000000) (h : wv p0 p1 p2 (nI a) p4 = 0) :
    ∃ t m q : Nat, p0 = nI t ∧ p2 = nI m ∧ p1 = lN q ∧ t + m ≤ a ∧ ((q : Int) + m ≤ p4.toInt) ∧ q < 1000000000000 := by
  unfold wv at h
  have b0 := i32_lo p0
  have b2 := i32_lo p2
  split at h
  · rename_i c0
    split at h
    · rename_i c1
      split at h
      · rename_i c2
        split at h
        · rename_i c3
          split at h
          · rename_i c4
            rw [i_le] at c0 c2
            rw [j_le] at c1 c3 c4
            rw [add64 (by rw [t64, t64]; omega) (by rw [t64, t64]; omega), t64, t64, t64, nI_toInt (by omega)] at c3
            rw [add64 (by rw [t64]; omega) (by rw [t64]; omega), t64, t64] at c4
            have z0 : (0 : Int32).toInt = 0 := by decide
            have z1 : (0 : Int64).toInt = 0 := by decide
            rw [z0] at c0 c2
            rw [z1] at c1
            refine ⟨p0.toInt.toNat, p2.toInt.toNat, p1.toInt.toNat, i_ext ?_, i_ext ?_, Int64.toInt_inj.mp ?_, by omega, by omega, by omega⟩
            · rw [nI_toInt (by omega)]; omega
            · rw [nI_toInt (by omega)]; omega
            · rw [pk_lT (by omega)]; omega
          · exact absurd h (by decide)
        · exact absurd h (by decide)
      · exact absurd h (by decide)
    · exact absurd h (by decide)
  · exact absurd h (by decide)
/-- the gap's WAY is the same in both -/
theorem wv_gap {p0 p2 : Int32} {a : Nat} (ha : a ≤ 24) : wv p0 0 p2 (nI a) (nI a) = wv p0 0 p2 (nI a) 2147483647 := by
  have b0 := i32_lo p0
  have b2 := i32_lo p2
  unfold wv
  split
  · rename_i c0
    split
    · rename_i c1
      split
      · rename_i c2
        split
        · rename_i c3
          rw [i_le] at c0 c2
          rw [j_le, add64 (by rw [t64, t64]; omega) (by rw [t64, t64]; omega), t64, t64, t64, nI_toInt (by omega)] at c3
          have z0 : (0 : Int32).toInt = 0 := by decide
          have z1 : (0 : Int64).toInt = 0 := by decide
          have z2 : (2147483647 : Int32).toInt = 2147483647 := by decide
          rw [z0] at c0 c2
          have e1 : (0 : Int64) + p2.toInt64 ≤ (nI a).toInt64 := by
            rw [j_le, add64 (by rw [t64, z1]; omega) (by rw [t64, z1]; omega), t64, t64, nI_toInt (by omega), z1]; omega
          have e2 : (0 : Int64) + p2.toInt64 ≤ (2147483647 : Int32).toInt64 := by
            rw [j_le, add64 (by rw [t64, z1]; omega) (by rw [t64, z1]; omega), t64, t64, z1, z2]; omega
          rw [if_pos e1, if_pos e2]
        · rfl
      · rfl
    · rfl
  · rfl
theorem wl_takeBack {S : mS} {K : Int32 → mS → Prop} {r bp bc : Nat} (h14 : S.fi 14 = nI r) (h15 : S.fi 15 = nI bp) (hr : r < 512) (hb : bp + bc ≤ 24) (k : K (nI bc) ((S.stl 3 (va_cpy (S.la 10) (S.la 3) 0 (24 * r + bp) bc)).si 16 0)) : ∀ t c, c + t = bc → wl_X2_takeBack_12 K (t + 1) (nI bc) (nI c) (S.stl 3 (va_cpy (S.la 10) (S.la 3) 0 (24 * r + bp) c)) := by
  intro t
  induction t with
  | zero =>
    intro c hc
    have hc : c = bc := by omega
    subst hc
    rw [wl_X2_takeBack_12]
    exact br_t (nI_le (Nat.le_refl _) (by omega)) k
  | succ t ih =>
    intro c hc
    rw [wl_X2_takeBack_12]
    refine br_f (nI_ge (a := c) (b := bc) (by omega) (by omega)) ?_
    have e : (24 : Int32) * (S.stl 3 (va_cpy (S.la 10) (S.la 3) 0 (24 * r + bp) c)).fi 14 + (S.stl 3 (va_cpy (S.la 10) (S.la 3) 0 (24 * r + bp) c)).fi 15 + nI c = nI (24 * r + bp + c) := by
      show (24 : Int32) * S.fi 14 + S.fi 15 + nI c = _
      rw [h14, h15, e24, nI_add]
    rw [e, ck (by omega), ck (by omega), nI_1, stl_sl]
    refine ⟨vp_in_nI (by omega) (by decide), vp_in_nI (by omega) (by decide), ?_⟩
    have ih' := ih (c + 1) (by omega)
    rw [← cpy_s, Nat.zero_add] at ih'
    exact ih'
theorem sim_takeBack {i : Nat} {C : cS} {M : mS} (h : Rel i C M) (hi5 : i < 512) : wp_X1_takeBack C (fun r1 C' => wp_X2_takeBack M (fun r2 M' => r1 = r2 ∧ Rel (i + 1) C' M')) := by
  obtain ⟨⟨id, R, T, Sh, cn, bc, ⟨i1, i2, i3⟩, ⟨n1, n2, n3, n4, n5, n6, n7, n8, n9, n10, n11, n12, n13⟩, hL, hP, hS, hB⟩, hr⟩ := h
  unfold wp_X1_takeBack
  rcases hB with ⟨hbr, hbc⟩ | ⟨a, b, s, bp, h1, h2, h3, h4, h5, h6, h7, h8, h9, h10⟩
  · subst hbc
    refine ⟨fun _ => w1emp ⟨1, ?_⟩, fun y e => absurd (hbr.symm.trans e) (by simp)⟩
    rw [wl_X2_takeBack_12]
    have g : (M.si 23 0).fi 16 = 0 := n10
    refine br_t (by rw [show M.fi 16 = 0 from n10]; decide) ⟨n9.trans n10.symm, ⟨id, R, T, Sh, cn, 0, ⟨by omega, by omega, by omega⟩, ⟨n1, n2, n3, n4, n5, n6, n7, n8, rfl, rfl, by omega, n12, n13⟩, hL, hP, hS, Or.inl ⟨rfl, rfl⟩⟩, hr⟩
  · obtain ⟨b', n, s', hl⟩ := hP.1 a h2
    have hl2 := hl
    obtain ⟨l1, l2, l3, l4, l5, l6, l7, l8⟩ := hl2
    have eb : b' = b := by rw [h5] at l1; cases l1; rfl
    subst eb
    have es : s' = s := by rw [h3] at l6; exact ((nI_eq (by omega) (by omega)).mp l6).symm
    subst es
    obtain ⟨k1, k2, k3, k4, k5⟩ := l8 h4
    refine ⟨fun e => absurd (e.symm.trans h1) (by simp), fun y1 _ => ⟨fun e => absurd (e.symm.trans h1) (by simp), fun y e => ?_⟩⟩
    have ey : y = a := Option.some.inj (e.symm.trans h1)
    subst ey
    rw [h7, n9, ck (by omega), ck (by omega)]
    refine ⟨h2, b', h5, l2, by decide, nI_pos (by omega), nI_pos (by omega), by show 0 + bc ≤ 24; omega, by omega, w1emp ⟨bc + 1, ?_⟩⟩
    have e0 : M.fi 16 = nI bc := n10
    rw [e0]
    have := wl_takeBack (S := M.si 23 0) (K := (fun r2 M' => nI bc = r2 ∧ Rel (i + 1) ((((C.cbp b' (0 : Int32).toNatClampNeg bp bc).sbr none).si 5 0).si 6 0) M')) (r := id y) (bp := bp) (bc := bc) h6 h8 (by omega) (by omega) ⟨rfl, ?_⟩ bc 0 (by omega)
    · rw [cpy_0, show (M.si 23 0).stl 3 ((M.si 23 0).la 3) = M.si 23 0 from stl_self _ _] at this
      exact this
    · have hP' := pool_upd (g := va_cpy C.bf (C.ar b') 0 bp bc) (ce' := va_cpy (M.la 10) (M.la 3) 0 (24 * id y + bp) bc) hP h2 hl h4 (fun j hj => by
        by_cases e : bp ≤ j ∧ j < bp + bc
        · rw [pk_cpy_in e.1 e.2, pk_cpy_in (by omega) (by omega), show 0 + (24 * id y + j - (24 * id y + bp)) = 0 + (j - bp) by omega, Nat.zero_add]
          exact h10 (j - bp) (by omega)
        · rw [pk_cpy_out (by omega), pk_cpy_out (by omega)]
          exact k5 j hj) (fun x hx => pk_cpy_out (by omega))
      exact ⟨⟨id, R, T, Sh, cn, 0, ⟨by omega, by omega, by omega⟩, ⟨n1, n2, n3, n4, n5, n6, n7, n8, rfl, rfl, by omega, n12, n13⟩, hL, hP', hS, Or.inl ⟨rfl, rfl⟩⟩, hr⟩
end Ops10
