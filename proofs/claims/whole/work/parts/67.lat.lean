section LawAt
theorem sim_Lat {i : Nat} {C : cS} {M : mS} (h : Rel i C M) (hi5 : i < 512) (p0 p1 : Int32) (g : Nat → Int64) : wp_L_at p0 p1 g C (fun k u => wp_X2_at p0 p1 M (fun b M' => M'.fi 23 = k ∧ (k = 0 → u.1 0 = b) ∧ Rel (i + 1) u.2 M')) := by
  have h23 := rel_23 h 1
  have hz := rel_232 h 0
  obtain ⟨⟨id, R, T, Sh, cn, bc, ⟨i1, i2, i3⟩, hN, hL, hP, hS, hB⟩, hr⟩ := h
  unfold wp_L_at wp_X1_at
  rcases spCase hP hS p0 with hb | ⟨j, hj, rfl, h1, h2⟩ | ⟨j, a, b, n, hj, rfl, h1, h2, h3, h4, h5, hl⟩ | ⟨j, a, b, n, s, hj, rfl, h1, h2, h3, h4, h5, hs, hl⟩
  · exact w1ld0 hb ⟨fun _ => Or.inl ⟨rfl, w2nr6 hb (br_f (by decide) ⟨rfl, fun q => absurd q (by decide), h23⟩)⟩, fun y e => by cases e⟩
  · refine w1ld1 hj ?_
    rw [h1]
    exact ⟨fun _ => Or.inl ⟨rfl, w2nr1 hj h2 (br_f (by decide) ⟨rfl, fun q => absurd q (by decide), h23⟩)⟩, fun y e => by cases e⟩
  · refine w1ld1 hj ?_
    rw [h1]
    refine ⟨fun e => (by cases e), fun y e => ?_⟩
    cases e
    exact ⟨h2, br_p h3 (Or.inl ⟨rfl, w2nr2 hj h4 (br_f (by decide) ⟨rfl, fun q => absurd q (by decide), h23⟩)⟩)⟩
  · obtain ⟨l1, l2, l3, l4, l5, l6, l7, l8⟩ := hl
    obtain ⟨k1, k2, k3, k4, k5⟩ := l8 hs
    refine w1ld1 hj ?_
    rw [h1]
    refine ⟨fun e => (by cases e), fun y e => ?_⟩
    cases e
    refine ⟨h2, br_n h3 ?_⟩
    by_cases c : p1 < 0
    · exact br_t c (Or.inr ⟨rfl, w2atX hj h4 h5 (by omega) k4 (Or.inl c) ⟨rfl, fun q => absurd q (by decide), hz 2⟩⟩)
    refine br_f c ⟨h2, b, l1, l2, ?_⟩
    rw [l3]
    rcases pk_ix p1 (n := n) (by omega) with z | z | ⟨t, ht, rfl⟩
    · exact absurd z c
    · exact br_f (nI_lt_n (Or.inr z) c) (Or.inr ⟨rfl, w2atX hj h4 h5 (by omega) k4 (Or.inr z) ⟨rfl, fun q => absurd q (by decide), hz 2⟩⟩)
    · refine br_t (nI_lt ht (by omega)) ⟨h2, b, l1, l2, (by rw [l3]; exact vp_in_nI ht (by omega)), h2, ?_⟩
      rw [l6, ck (j := t) (by omega)]
      obtain ⟨f1, f2⟩ := k5 t ht
      have hy : 5 ≤ s → M.la 3 (24 * id a + t) = -1 ∨ ∃ k, k < 512 ∧ M.la 3 (24 * id a + t) = lN k := by
        intro q
        rcases f2 q with ⟨-, e⟩ | ⟨k, hk, e, -⟩
        · exact Or.inl e
        · exact Or.inr ⟨k, by omega, e⟩
      refine w1num (by omega) (fun q => br_t rfl ?_) (fun q => br_f (by decide) ?_)
      · rcases f2 q with ⟨e1, e2⟩ | ⟨k, hk, e1, e2⟩
        · refine br_p e1 (w2at hj h4 h5 (by omega) k3 hs k4 l4 ht (fun q' => absurd q' (by omega)) (fun _ _ => ⟨rfl, fun _ => rfl, hz 0⟩) (fun _ k' hk' e' => ?_) hy)
          rw [e2] at e'
          exact absurd e' (lN_ne_m1 hk')
        · obtain ⟨d, hd, hsk⟩ := hP.2.2.2 k hk
          have e3 : C.ar b t = enc k (nI d) (M.ia 7 k) := by rw [e2, hsk]
          have ne : ¬ C.ar b t = 0 := by rw [e3]; exact e_ne (by omega) hd _
          refine br_n ne ?_
          unfold wp_X1_numberOf wp_X1_kindOf
          have ek : (((((C.ar b t).toUInt64 >>> (((32 : Int32)).toInt64.toUInt64 &&& Int64.toUInt64 63)).toInt64).toInt32 &&& (3 : Int32))) = nI d := by
            have := e_kof (k := k) (d := d) (by omega) hd (M.ia 7 k)
            rw [← e3] at this
            exact this
          have en : (C.ar b t).toInt32 = M.ia 7 k := by rw [e3]; exact e_num (by omega) hd _
          refine w2at hj h4 h5 (by omega) k3 hs k4 l4 ht (fun q' => absurd q' (by omega)) (fun _ e' => ?_) (fun _ k' hk' e' => ⟨rfl, fun _ => ?_, hz 0⟩) hy
          · rw [e1] at e'
            exact absurd e'.symm (lN_ne_m1 (by omega))
          · have : k' = k := ((pk_lEQ (by omega) (by omega)).mp (e'.symm.trans e1))
            subst this
            show (4 * ((C.ar b t).toInt32).toInt64 + ((((((C.ar b t).toUInt64 >>> (((32 : Int32)).toInt64.toUInt64 &&& Int64.toUInt64 63)).toInt64).toInt32 &&& (3 : Int32)))).toInt64) = _
            rw [ek, en, hsk]
      · refine w2at hj h4 h5 (by omega) k3 hs k4 l4 ht (fun _ => ⟨rfl, fun _ => f1 q, hz 0⟩) (fun q' => absurd q' (by omega)) (fun q' => absurd q' (by omega)) hy
variable {p : Program} {l : Launch} {e : Env} {s : State} {m : MethodId} {args : Array Value} {below : List Frame} {meth : Method} {c : Code} {H : Heap} {locs : List Loc} {cells slots : Nat} {Q : State → Prop} {ls : Array Slot} {D : va_G} {cI cJ cO : ClassId} {h hm : Nat → Nat} {C : cS} {M : mS} {sa sb o b L t : Nat} {g : Nat → Int64} {xs : Nat → Int32}
set_option maxHeartbeats 1000000 in
set_option maxRecDepth 100000 in
theorem lc_at (h0 : l.stackTraces = false) (hT : aT sa sb (lA s) s s.heap) (hC : va_Nc exX exS s) (F : LC p s m args c b L xs t) (ht : t < 512) (hR : Rel t C M) (I : CI D cI cJ cO h (lA s) s s.heap H locs (mW cI cJ hm M ++ oW cJ o g) C) (hl : lv_has ls 8 (lL b h hm o t)) (hc : cells + 2 ≤ room_1.cells) (hs : slots + 27 ≤ room_1.slots) (kk : LK p l e s m args below meth c cells slots Q D cI cJ cO h hm o b t) : W p l e room_1 s m args below meth c H locs cells slots Q (F0 m 852 ls []) := by
  obtain ⟨hx, hb, hml, hown, hts⟩ := id F.1
  have hA : ¬ lA s b := Nat.not_le_of_lt F.2.2.1
  refine lv_aload_n hx hb dL_law_852 rfl (lv_at hl 1 rfl) ?_
  refine l_arg F hA I.2.2.2.1 hl 0 4 rfl rfl 1 (by decide) (by decide) dL_law_853 dL_law_854 dL_law_856 dL_law_857 dL_law_858 ?_
  refine l_arg F hA I.2.2.2.1 hl 0 4 rfl rfl 2 (by decide) (by decide) dL_law_859 dL_law_860 dL_law_862 dL_law_863 dL_law_864 ?_
  refine lv_aload_n hx hb dL_law_865 rfl (lv_at hl 3 rfl) ?_
  have i1 := I.2.1
  have i2 := I.2.2.1
  rw [List.append_assoc] at i1 i2
  have hF := fr_b (pr_D i2) I.2.2.2.1 I.2.2.2.2.1
  have hgp : ∀ U : State, U.heap = H → s.WarmedH U.vm → hPc D cI cJ cO h sa sb o g C H.size [.ref (h 0), .int (xs (6 * t + 1)), .int (xs (6 * t + 2)), .ref o] [Value.ref (h 0), .int (xs (6 * t + 1)), .int (xs (6 * t + 2)), .ref o].toArray U := fun U hU hW =>
    ⟨rfl, by rw [hU], by rw [hU]; exact pr_P i1, va_K.moved hW.alike I.1, (pr_D i2).weaken (fun _ _ _ _ => trivial), va_Nw.warmC hW I.2.2.2.2.2, by rw [hU]; exact ((aT.warm hW hT).kept I.2.2.2.1.2.1).narrow hF, va_Nc.moved hW.alike hC⟩
  refine va_calli (A0 := lA s) (H0 := s.heap) (rest := []) (vx_runSW (As := [.ref (h 0), .int (xs (6 * t + 1)), .int (xs (6 * t + 2)), .ref o]) F.1 (c_L_at h0 (xs (6 * t + 1)) (xs (6 * t + 2)) _ (sim_Lat hR ht (xs (6 * t + 1)) (xs (6 * t + 2)) g) H.size) (vx_cwSW 4 hts gL_law_L_at rfl rfl rfl (by decide +kernel) ⟨Nat.le_of_ble_eq_true rfl, Nat.le_of_ble_eq_true rfl⟩) ⟨h_blind, hgp⟩ rfl rfl hl.1 rfl (lv_room (Nat.le_of_ble_eq_true rfl)) dL_law_866 ⟨by omega, by omega⟩) I.2.2.2.1 (fun q _ hq => hF q hq) hF (fun k u t9 H1 locs1 ht9 hvm hw hB hz hk hS => ?_)
  obtain ⟨hP1, -, hD1⟩ := hB
  rw [ht9] at hP1
  obtain ⟨j1, j2⟩ := jn_r i1 i2 hk hF hP1 hD1
  rw [← List.append_assoc] at j1 j2
  have I : CI D cI cJ cO h (lA s) s s.heap H1 locs1 (mW cI cJ hm M ++ oW cJ o u.1) u.2 := ⟨I.1, j1, j2, hS, I.2.2.2.2⟩
  refine W.widen (k := cells + 2) (n := slots + 27) (by omega) (by omega) ?_
  refine lv_istore (lv' := [(5, .int k), (0, .ref b), (1, .ref (h 0)), (2, .ref (hm 0)), (3, .ref o), (4, .int (nI (6 * t)))]) hx hb dL_law_869 hl (by decide) rfl (fun ls hl => ?_)
  refine lv_aload_n hx hb dL_law_871 rfl (lv_at hl 3 rfl) ?_
  refine l_arg F hA I.2.2.2.1 hl 1 5 rfl rfl 1 (by decide) (by decide) dL_law_872 dL_law_873 dL_law_875 dL_law_876 dL_law_877 ?_
  refine l_arg F hA I.2.2.2.1 hl 1 5 rfl rfl 2 (by decide) (by decide) dL_law_878 dL_law_879 dL_law_881 dL_law_882 dL_law_883 ?_
  refine lm_l (rest := []) F.1 I (c_X2_at (xs (6 * t + 1)) (xs (6 * t + 2)) M _ hw) (cwV 2 hts gL_law_X2_at rfl rfl rfl (by decide +kernel) ⟨Nat.le_of_ble_eq_true rfl, Nat.le_of_ble_eq_true rfl⟩) rfl hl.1 rfl (Nat.le_of_ble_eq_true rfl) dL_law_884 ⟨hc, hs⟩ (fun b1 M1 H locs hw I => ?_)
  obtain ⟨w1, w2, w3⟩ := hw
  refine lv_lstore (lv' := [(6, .long b1), (5, .int k), (0, .ref b), (1, .ref (h 0)), (2, .ref (hm 0)), (3, .ref o), (4, .int (nI (6 * t)))]) hx hb dL_law_887 hl (by decide) rfl (fun ls hl => ?_)
  refine lv_aload_n hx hb dL_law_889 rfl (lv_at hl 4 rfl) ?_
  refine lm_i (rest := []) F.1 I (c_X2_thrown M1 (fun r u => r = M1.fi 23 ∧ u = M1) ⟨rfl, rfl⟩) (cwV 0 hts gL_law_X2_thrown rfl rfl rfl (by decide +kernel) ⟨Nat.le_of_ble_eq_true rfl, Nat.le_of_ble_eq_true rfl⟩) rfl hl.1 rfl (Nat.le_of_ble_eq_true rfl) dL_law_890 ⟨hc, hs⟩ (fun r2 M2 H locs hw I => ?_)
  obtain ⟨e1, e2⟩ := hw
  rw [e2] at I
  refine lv_iload hx hb dL_law_893 (lv_at hl 1 rfl) ?_
  refine lv_icmp_eq (tgt := 900) hx hb dL_law_895 (by decide) (fun _ => ?_) (fun q => absurd (e1.trans w1) q)
  have hl5 : lv_has ls 8 (lL b h hm o t) := lv_sub hl [2, 3, 4, 5, 6] rfl
  refine lv_iload hx hb dL_law_900 (lv_at hl 1 rfl) ?_
  refine lv_if_ne (tgt := 916) hx hb dL_law_902 (by decide) (fun _ => ?_) (fun q => ?_)
  · refine lv_goto (tgt := 981) hx hb dL_law_916 (by decide) ?_
    exact kk u.1 M1 u.2 H locs ls I w3 hl5
  · refine lv_aload_n hx hb dL_law_905 rfl (lv_at hl 5 rfl) ?_
    refine lv_iconst (v := (0 : Int32)) hx hb dL_law_906 (by decide) ?_
    refine va_lald (ws := (mW cI cJ hm M1 ++ oW cJ o u.1) ++ cW cI cJ cO h u.2) hx hb I.1 I.2.1 12 1 rfl rfl (vp_in_nI (n := 0) (N := 1) (by decide) (by decide)) dL_law_907 ?_
    refine lv_lload hx hb dL_law_908 (lv_at hl 0 rfl) ?_
    refine W.lcmp hx hb dL_law_910 ?_
    refine lv_if_eq (tgt := 916) hx hb dL_law_911 (by decide) (fun _ => ?_) (fun q2 => absurd ((lg_cmp_eq _ _).mpr (w2 q)) q2)
    refine lv_goto (tgt := 981) hx hb dL_law_916 (by decide) ?_
    exact kk u.1 M1 u.2 H locs ls I w3 hl5
end LawAt
