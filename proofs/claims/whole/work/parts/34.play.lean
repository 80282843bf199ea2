section PlayA
def mS.sta (S : mS) (j : Nat) (g : Nat → Int32) : mS := (S.1, va_up S.2.1 j g, S.2.2)
theorem msl_sta (S : mS) (j : Nat) (g : Nat → Int32) : (S.sta j g).fi = S.fi ∧ (S.sta j g).ia = va_up S.ia j g ∧ (S.sta j g).la = S.la := ⟨rfl, rfl, rfl⟩
theorem sta_sa (S : mS) (j k : Nat) (g : Nat → Int32) (v : Int32) : (S.sta j g).sa j k v = S.sta j (upd g k v) := by
  show (S.1, va_up (va_up S.2.1 j g) j (upd (va_up S.2.1 j g j) k v), S.2.2) = (S.1, va_up S.2.1 j (upd g k v), S.2.2)
  rw [up_s, bx_uu]
theorem sta_self (S : mS) (j : Nat) : S.sta j (S.ia j) = S := by
  show (S.1, va_up S.2.1 j (S.2.1 j), S.2.2) = (S.1, S.2.1, S.2.2)
  congr 2
  funext x
  by_cases e : x = j
  · subst e; rw [up_s]
  · rw [up_n _ _ e]
theorem sta_ia (S : mS) (j : Nat) (g : Nat → Int32) : (S.sta j g).ia j = g := up_s _ _ _
theorem cpyi_0 (f g : Nat → Int32) (sp dp : Nat) : va_cpy f g sp dp 0 = g := by
  funext j
  exact if_neg (by omega)
theorem cpyi_s (f g : Nat → Int32) (sp dp c : Nat) : upd (va_cpy f g sp dp c) (dp + c) (f (sp + c)) = va_cpy f g sp dp (c + 1) := by
  funext j
  simp only [upd, va_cpy]
  by_cases e : j = dp + c
  · rw [if_pos e, if_pos (by omega)]
    congr 1
    omega
  · rw [if_neg e]
    by_cases h : dp ≤ j ∧ j < dp + c
    · rw [if_pos h, if_pos (by omega)]
    · rw [if_neg h, if_neg (by omega)]
theorem e5 (d : Nat) : (5 : Int32) * nI d = nI (5 * d) := by rw [show (5 : Int32) = nI 5 from rfl, pk_mul]
theorem e5' (d : Nat) : nI d * (5 : Int32) = nI (5 * d) := by rw [show (5 : Int32) = nI 5 from rfl, pk_mul, Nat.mul_comm]
/-- the reference closes up its list -/
theorem wl_shift {S : mS} {K : Int32 → mS → Prop} {d cn : Nat} {r : Int32} (h12 : S.fi 12 = nI cn) (hcn : cn ≤ 16) (hd : d ≤ cn) (k : wp_X2_told r ((S.sta 9 (va_cpy (S.ia 9) (S.ia 9) (5 * d) 0 (5 * (cn - d)))).si 12 (nI (cn - d))) (fun _ S6 => K (nI d) S6)) : ∀ u c, c + u = 5 * (cn - d) → wl_X2_play_100 K (u + 1) (nI d) r (nI (5 * d + c)) (S.sta 9 (va_cpy (S.ia 9) (S.ia 9) (5 * d) 0 c)) := by
  intro u
  induction u with
  | zero =>
    intro c hc
    have hc : c = 5 * (cn - d) := by omega
    subst hc
    rw [wl_X2_play_100]
    have g : (S.sta 9 (va_cpy (S.ia 9) (S.ia 9) (5 * d) 0 (5 * (cn - d)))).fi 12 = nI cn := h12
    rw [g, e5]
    refine br_t (nI_le (by omega) (by omega)) ?_
    rw [pk_sub hd]
    exact k
  | succ u ih =>
    intro c hc
    rw [wl_X2_play_100]
    have g : (S.sta 9 (va_cpy (S.ia 9) (S.ia 9) (5 * d) 0 c)).fi 12 = nI cn := h12
    rw [g, e5, e5, pk_sub (by omega), pk_sub (by omega), ck (by omega), ck (by omega), nI_1, sta_sa, sta_ia]
    refine br_f (nI_ge (by omega) (by omega)) ⟨vp_in_nI (by omega) (by decide), vp_in_nI (by omega) (by decide), ?_⟩
    have ih' := ih (c + 1) (by omega)
    rw [← cpyi_s, Nat.zero_add] at ih'
    rw [pk_cpy_out (by omega), show 5 * d + c - 5 * d = c by omega, Nat.add_assoc]
    exact ih'
theorem w2shift {S : mS} {K : Int32 → mS → Prop} {d cn : Nat} {r : Int32} (h12 : S.fi 12 = nI cn) (hcn : cn ≤ 16) (hd : d ≤ cn) (k : wp_X2_told r ((S.sta 9 (va_cpy (S.ia 9) (S.ia 9) (5 * d) 0 (5 * (cn - d)))).si 12 (nI (cn - d))) (fun _ S6 => K (nI d) S6)) : ∃ n, wl_X2_play_100 K n (nI d) r (5 * nI d) S := by
  have := wl_shift h12 hcn hd k (5 * (cn - d)) 0 (by omega)
  rw [cpyi_0, sta_self] at this
  rw [e5]
  exact ⟨_, this⟩
theorem rel0_list {i : Nat} {C : cS} {M : mS} {cn d : Nat} (h : Rel0 i C M) (hc : C.fi 2 = nI cn) (hcn : cn ≤ 16) (hd : d ≤ cn) : Rel0 i ((C.si 2 (nI (cn - d))).ccu (5 * d) 0 (5 * (cn - d))) ((M.sta 9 (va_cpy (M.ia 9) (M.ia 9) (5 * d) 0 (5 * (cn - d)))).si 12 (nI (cn - d))) := by
  obtain ⟨id, R, T, Sh, cn', bc, hi, ⟨n1, n2, n3, n4, n5, n6, n7, n8, n9, n10, n11, n12, n13⟩, hL, hP, hS, hB⟩ := h
  have e : cn' = cn := (nI_eq (by omega) (by omega)).mp (n6.symm.trans hc)
  subst e
  refine ⟨id, R, T, Sh, cn' - d, bc, hi, ⟨n1, n2, n3, n4, n5, rfl, rfl, by omega, n9, n10, n11, n12, n13⟩, fun j hj => ?_, hP, hS, hB⟩
  show va_cpy C.cu C.cu (5 * d) 0 (5 * (cn' - d)) j = va_cpy (M.ia 9) (M.ia 9) (5 * d) 0 (5 * (cn' - d)) j
  rw [pk_cpy_in (by omega) (by omega), pk_cpy_in (by omega) (by omega)]
  exact hL _ (by omega)
/-- the end of play(): d cuts done, r the refusal of the next one, or 0 -/
theorem play_end {i cn d : Nat} {C0 C : cS} {M0 M : mS} {r : Int32} {K : Int32 → mS → Prop} (hds : dsP i C0 M0 r C r M) (hc : C.fi 2 = nI cn) (hm : M.fi 12 = nI cn) (hcn : cn ≤ 16) (hd : d ≤ cn) (k : ∀ M'', Rel (i + 1) ((C.si 2 (nI (cn - d))).ccu (5 * d) 0 (5 * (cn - d))) M'' → K (nI d) M'') : ∃ n, wl_X2_play_100 K n (nI d) r (5 * nI d) M := by
  refine w2shift hm hcn hd ?_
  obtain ⟨d1, d2, d3, d4, d5, d6, d7, d8, d9⟩ := hds
  have hds2 : dsP i ((C.si 2 (nI (cn - d))).ccu (5 * d) 0 (5 * (cn - d))) ((M.sta 9 (va_cpy (M.ia 9) (M.ia 9) (5 * d) 0 (5 * (cn - d)))).si 12 (nI (cn - d))) r ((C.si 2 (nI (cn - d))).ccu (5 * d) 0 (5 * (cn - d))) r ((M.sta 9 (va_cpy (M.ia 9) (M.ia 9) (5 * d) 0 (5 * (cn - d)))).si 12 (nI (cn - d))) := ⟨rfl, rel0_list d2 hc hcn hd, d3, d4, d5, d6, d7, d8, rfl, rfl, rfl, rfl⟩
  exact told_rel (Nat.le_succ i) hds2 k
theorem wl_play {i cn : Nat} {C0 : cS} {M0 M : mS} (hi5 : i < 512) (hcn : cn ≤ 16) (hC : C0.fi 2 = nI cn) (hM : M0.fi 12 = nI cn) (hL : ∀ j, j < 5 * cn → C0.cu j = M0.ia 9 j) : ∀ u d, d + u = cn → ∀ (C1 : cS) (M1 : mS) (Cd : cS) (Md : mS), dsP i C1 M1 0 Cd 0 Md → (Cd.fi 2 = nI cn ∧ Cd.cu = C0.cu ∧ Md.ia 9 = M0.ia 9 ∧ Md.fi 12 = nI cn) → (∀ K2 : Int32 → mS → Prop, (∃ n, wl_X2_play_13 K2 n (nI d) 0 Md) → wp_X2_play M K2) →
    wl_X1_play_10 (fun r1 C' => wp_X2_play M (fun r2 M' => r1 = r2 ∧ Rel (i + 1) C' M')) (u + 1) (nI d) Cd := by
  intro u
  induction u with
  | zero =>
    intro d hd C1 M1 Cd Md hds hk adv
    have hd : d = cn := by omega
    subst hd
    rw [wl_X1_play_10, hk.1, pk_sub (Nat.le_refl _), e5', e5', ck (by omega), ck (by omega)]
    refine br_t (nI_le (Nat.le_refl _) (by omega)) ⟨nI_pos (by omega), by decide, nI_pos (by omega), by omega, by show 0 + _ ≤ 80; omega, adv _ ⟨1, ?_⟩⟩
    rw [wl_X2_play_13, hk.2.2.2]
    exact br_t (nI_le (Nat.le_refl _) (by omega)) (play_end hds hk.1 hk.2.2.2 hcn (Nat.le_refl _) (fun M'' hM => ⟨rfl, hM⟩))
  | succ u ih =>
    intro d hd C1 M1 Cd Md hds hk adv
    rw [wl_X1_play_10, hk.1]
    refine br_f (nI_ge (a := d) (b := cn) (by omega) (by omega)) ?_
    unfold wp_X1_playCut
    have a1 : nI (5 * d) + 1 = nI (5 * d + 1) := nI_1 _
    have a2 : nI (5 * d) + 2 = nI (5 * d + 2) := nI_add _ 2
    have a3 : nI (5 * d) + 3 = nI (5 * d + 3) := nI_add _ 3
    have a4 : nI (5 * d) + 4 = nI (5 * d + 4) := nI_add _ 4
    rw [e5', a1, a2, a3, a4, ck (by omega), ck (by omega), ck (by omega), ck (by omega), ck (by omega), hk.2.1, hL _ (by omega), hL _ (by omega), hL _ (by omega), hL _ (by omega), hL _ (by omega)]
    refine ⟨vp_in_nI (by omega) (by decide), vp_in_nI (by omega) (by decide), vp_in_nI (by omega) (by decide), vp_in_nI (by omega) (by decide), vp_in_nI (by omega) (by decide), ?_⟩
    refine sim_ds hds.2.1 (by omega) _ _ _ _ _ (rng32 _) (fun r C' M' hdr hB => ?_)
    have hkk := hdr.2.2.2.2.2.2.2.2
    have hk' : C'.fi 2 = nI cn ∧ C'.cu = C0.cu ∧ M'.ia 9 = M0.ia 9 ∧ M'.fi 12 = nI cn := ⟨hkk.1.trans hk.1, hkk.2.1.trans hk.2.1, hkk.2.2.1.trans hk.2.2.1, hkk.2.2.2.trans hk.2.2.2⟩
    have step : ∀ (K2 : Int32 → mS → Prop) (n : Nat), ((¬ r = 0 → wl_X2_play_13 K2 n (nI d + 0) r M') ∧ (r = 0 → wl_X2_play_13 K2 n (nI d + 1) r M')) → wl_X2_play_13 K2 (n + 1) (nI d) 0 Md := by
      intro K2 n hn
      rw [wl_X2_play_13, hk.2.2.2, e5, a1, a2, a3, a4, ck (by omega), ck (by omega), ck (by omega), ck (by omega), ck (by omega), hk.2.2.1]
      exact br_f (nI_ge (a := d) (b := cn) (by omega) (by omega)) (br_p rfl ⟨vp_in_nI (by omega) (by decide), vp_in_nI (by omega) (by decide), vp_in_nI (by omega) (by decide), vp_in_nI (by omega) (by decide), vp_in_nI (by omega) (by decide), hB _ hn⟩)
    refine ⟨fun c => ?_, fun c => ?_⟩
    · rw [hk'.1, pk_sub (by omega), e5', ck (by omega)]
      refine ⟨nI_pos (by omega), by decide, nI_pos (by omega), by omega, by show 0 + _ ≤ 80; omega, adv _ ⟨2, step _ 1 ⟨fun _ => ?_, fun q => absurd q c⟩⟩⟩
      rw [wl_X2_play_13, Int32.add_zero, hk'.2.2.2]
      exact br_f (nI_ge (a := d) (b := cn) (by omega) (by omega)) (br_n c (play_end hdr hk'.1 hk'.2.2.2 hcn (by omega) (fun M'' hM => ⟨rfl, hM⟩)))
    · subst c
      rw [nI_1]
      refine ih (d + 1) (by omega) _ _ C' M' hdr hk' (fun K2 hn => ?_)
      obtain ⟨n, hn⟩ := hn
      refine adv K2 ⟨n + 1, step K2 n ⟨fun q => absurd rfl q, fun _ => ?_⟩⟩
      rw [nI_1]
      exact hn
theorem sim_play {i : Nat} {C : cS} {M : mS} (h : Rel i C M) (hi5 : i < 512) : wp_X1_play C (fun r1 C' => wp_X2_play M (fun r2 M' => r1 = r2 ∧ Rel (i + 1) C' M')) := by
  have hds : dsP i C M 0 (((C.si 7 0).si 8 0).si 9 0) 0 (((M.si 23 0).si 19 0).si 20 0) := ds_fin0 (rel0_of h.1 ⟨rfl, rfl, rfl, rfl, rfl, rfl, rfl, rfl, rfl, rfl, rfl⟩ ⟨rfl, rfl, rfl, rfl, rfl, rfl, rfl⟩ ⟨rfl, rfl, rfl, rfl, rfl, rfl, rfl, rfl, rfl, rfl⟩ ⟨rfl, rfl, rfl, rfl, rfl, rfl, rfl, rfl, rfl⟩) rfl rfl ⟨rfl, rfl, rfl, rfl⟩
  obtain ⟨⟨id, R, T, Sh, cn, bc, hi, ⟨n1, n2, n3, n4, n5, n6, n7, n8, n9, n10, n11, n12, n13⟩, hL, hP, hS, hB⟩, hr⟩ := h
  unfold wp_X1_play
  refine w1set ⟨cn + 1, wl_play (C0 := C) (M0 := M) hi5 n8 n6 n7 hL cn 0 (by omega) _ _ _ _ hds ⟨n6, rfl, rfl, n7⟩ (fun K2 hn => w2beg hn)⟩
end PlayA
