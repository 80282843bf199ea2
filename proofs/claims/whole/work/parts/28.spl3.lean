section Spl3
theorem leq {S : mS} {j : Nat} {x : Int32} (hj : j < 8) (h : S.ia 4 j = x) : ((S.si 19 0).si 20 0).ia 4 (nI j).toNatClampNeg = x := by rw [ck (by omega)]; exact h
theorem lne {S : mS} {j : Nat} {x y : Int32} (hj : j < 8) (h : S.ia 4 j = x) (n : ¬ x = y) : ¬ ((S.si 19 0).si 20 0).ia 4 (nI j).toNatClampNeg = y := by rw [leq hj h]; exact n
theorem ds_pair {i : Nat} {C : cS} {M : mS} {id : Nat → Nat} {R T Sh : Nat} (h : Rel0 i C M) (hP : PoolC C M id R T Sh) (hS : Spn C.sp C.L C.kd C.so (M.ia 4) (M.ia 5) id) (p0 p1 p2 : Int32) (p3 : Int64) (p4 : Int32)
    {A : Int32 → cS → Prop} (hA : ∀ r C' M', dsP i C M r C' r M' → (∀ B : Int32 → mS → Prop, B r M' → wp_X2_spliced p0 p1.toInt64 p2 p3 p4.toInt64 M B) → A r C') (main : ∀ j0 a0 b0 n0 s0 j1 a1 b1 n1 s1 : Nat, j0 < 8 → p0 = nI j0 → C.sp j0 = some a0 → C.ld a0 → ¬ C.so a0 = 8 → M.ia 4 j0 = 1 → M.ia 5 j0 = nI (id a0) → s0 < 8 → lRC C M id R T Sh a0 b0 n0 s0 → j1 < 8 → p2 = nI j1 → C.sp j1 = some a1 → C.ld a1 → ¬ C.so a1 = 8 → M.ia 4 j1 = 1 → M.ia 5 j1 = nI (id a1) → s1 < 8 → lRC C M id R T Sh a1 b1 n1 s1 → wp_X1_doSplice p0 p1 p2 p3 p4 C A) :
    wp_X1_doSplice p0 p1 p2 p3 p4 C A := by
  rcases spCase hP hS p0 with hb0 | ⟨j0, hj0, rfl, h10, h2a0⟩ | ⟨j0, a0, b0, n0, hj0, rfl, h10, h20, h30, h4a0, h50, hl0⟩ | ⟨j0, a0, b0, n0, s0, hj0, rfl, h10, h20, h30, h4a0, h50, hs0, hl0⟩
  · rcases spCase hP hS p2 with hb1 | ⟨j1, hj1, rfl, h11, h2a1⟩ | ⟨j1, a1, b1, n1, hj1, rfl, h11, h21, h31, h4a1, h51, hl1⟩ | ⟨j1, a1, b1, n1, s1, hj1, rfl, h11, h21, h31, h4a1, h51, hs1, hl1⟩
    · unfold wp_X1_doSplice wp_X1_refusalOfPair
      exact w1rr6 hb0 (w1rr6 hb1 (br_t rfl (br_f (by decide) (w1set (hA _ _ _ (ds_ref h (by decide)) (fun B hB => w2beg (w2sp0 hb0 (br_t rfl (hB)))))))))
    · unfold wp_X1_doSplice wp_X1_refusalOfPair
      exact w1rr6 hb0 (w1rr1 hj1 h11 (br_t rfl (br_f (by decide) (w1set (hA _ _ _ (ds_ref h (by decide)) (fun B hB => w2beg (w2sp0 hb0 (br_t rfl (hB)))))))))
    · unfold wp_X1_doSplice wp_X1_refusalOfPair
      exact w1rr6 hb0 (w1rr2 hj1 h11 h21 h31 (br_t rfl (br_f (by decide) (w1set (hA _ _ _ (ds_ref h (by decide)) (fun B hB => w2beg (w2sp0 hb0 (br_t rfl (hB)))))))))
    · unfold wp_X1_doSplice wp_X1_refusalOfPair
      exact w1rr6 hb0 (w1rr0 hj1 h11 h21 h31 (br_t rfl (br_f (by decide) (w1set (hA _ _ _ (ds_ref h (by decide)) (fun B hB => w2beg (w2sp0 hb0 (br_t rfl (hB)))))))))
  · rcases spCase hP hS p2 with hb1 | ⟨j1, hj1, rfl, h11, h2a1⟩ | ⟨j1, a1, b1, n1, hj1, rfl, h11, h21, h31, h4a1, h51, hl1⟩ | ⟨j1, a1, b1, n1, s1, hj1, rfl, h11, h21, h31, h4a1, h51, hs1, hl1⟩
    · unfold wp_X1_doSplice wp_X1_refusalOfPair
      exact w1rr1 hj0 h10 (w1rr6 hb1 (br_f (by decide) (br_p rfl (br_f (by decide) (w1set (hA _ _ _ (ds_ref h (by decide)) (fun B hB => w2beg (w2sp1 hj0 (br_f (by decide) (w2sp0 hb1 (br_p rfl (hB))))))))))))
    · unfold wp_X1_doSplice wp_X1_refusalOfPair
      exact w1rr1 hj0 h10 (w1rr1 hj1 h11 (br_f (by decide) (br_n (by decide) (br_t rfl (br_f (by decide) (w1set (hA _ _ _ (ds_ref h (by decide)) (fun B hB => w2beg (w2sp1 hj0 (br_f (by decide) (w2sp1 hj1 (br_n (by decide) ⟨vp_in_nI hj0 (by decide), br_t (leq hj0 h2a0) (hB)⟩))))))))))))
    · unfold wp_X1_doSplice wp_X1_refusalOfPair
      exact w1rr1 hj0 h10 (w1rr2 hj1 h11 h21 h31 (br_f (by decide) (br_n (by decide) (br_t rfl (br_f (by decide) (w1set (hA _ _ _ (ds_ref h (by decide)) (fun B hB => w2beg (w2sp1 hj0 (br_f (by decide) (w2sp1 hj1 (br_n (by decide) ⟨vp_in_nI hj0 (by decide), br_t (leq hj0 h2a0) (hB)⟩))))))))))))
    · unfold wp_X1_doSplice wp_X1_refusalOfPair
      exact w1rr1 hj0 h10 (w1rr0 hj1 h11 h21 h31 (br_f (by decide) (br_n (by decide) (br_t rfl (br_f (by decide) (w1set (hA _ _ _ (ds_ref h (by decide)) (fun B hB => w2beg (w2sp1 hj0 (br_f (by decide) (w2sp1 hj1 (br_n (by decide) ⟨vp_in_nI hj0 (by decide), br_t (leq hj0 h2a0) (hB)⟩))))))))))))
  · rcases spCase hP hS p2 with hb1 | ⟨j1, hj1, rfl, h11, h2a1⟩ | ⟨j1, a1, b1, n1, hj1, rfl, h11, h21, h31, h4a1, h51, hl1⟩ | ⟨j1, a1, b1, n1, s1, hj1, rfl, h11, h21, h31, h4a1, h51, hs1, hl1⟩
    · unfold wp_X1_doSplice wp_X1_refusalOfPair
      exact w1rr2 hj0 h10 h20 h30 (w1rr6 hb1 (br_f (by decide) (br_p rfl (br_f (by decide) (w1set (hA _ _ _ (ds_ref h (by decide)) (fun B hB => w2beg (w2sp1 hj0 (br_f (by decide) (w2sp0 hb1 (br_p rfl (hB))))))))))))
    · unfold wp_X1_doSplice wp_X1_refusalOfPair
      exact w1rr2 hj0 h10 h20 h30 (w1rr1 hj1 h11 (br_f (by decide) (br_n (by decide) (br_f (by decide) (br_p rfl (br_f (by decide) (w1set (hA _ _ _ (ds_ref h (by decide)) (fun B hB => w2beg (w2sp1 hj0 (br_f (by decide) (w2sp1 hj1 (br_n (by decide) ⟨vp_in_nI hj0 (by decide), br_f (lne hj0 h4a0 (by decide)) ⟨vp_in_nI hj1 (by decide), br_p (leq hj1 h2a1) (hB)⟩⟩)))))))))))))
    · unfold wp_X1_doSplice wp_X1_refusalOfPair
      exact w1rr2 hj0 h10 h20 h30 (w1rr2 hj1 h11 h21 h31 (br_f (by decide) (br_n (by decide) (br_f (by decide) (br_n (by decide) (br_t rfl (br_f (by decide) (w1set (hA _ _ _ (ds_ref h (by decide)) (fun B hB => w2beg (w2sp1 hj0 (br_f (by decide) (w2sp1 hj1 (br_n (by decide) ⟨vp_in_nI hj0 (by decide), br_f (lne hj0 h4a0 (by decide)) ⟨vp_in_nI hj1 (by decide), br_n (lne hj1 h4a1 (by decide)) ⟨vp_in_nI hj0 (by decide), br_t (leq hj0 h4a0) (hB)⟩⟩⟩))))))))))))))
    · unfold wp_X1_doSplice wp_X1_refusalOfPair
      exact w1rr2 hj0 h10 h20 h30 (w1rr0 hj1 h11 h21 h31 (br_f (by decide) (br_n (by decide) (br_f (by decide) (br_n (by decide) (br_t rfl (br_f (by decide) (w1set (hA _ _ _ (ds_ref h (by decide)) (fun B hB => w2beg (w2sp1 hj0 (br_f (by decide) (w2sp1 hj1 (br_n (by decide) ⟨vp_in_nI hj0 (by decide), br_f (lne hj0 h4a0 (by decide)) ⟨vp_in_nI hj1 (by decide), br_n (lne hj1 h4a1 (by decide)) ⟨vp_in_nI hj0 (by decide), br_t (leq hj0 h4a0) (hB)⟩⟩⟩))))))))))))))
  · rcases spCase hP hS p2 with hb1 | ⟨j1, hj1, rfl, h11, h2a1⟩ | ⟨j1, a1, b1, n1, hj1, rfl, h11, h21, h31, h4a1, h51, hl1⟩ | ⟨j1, a1, b1, n1, s1, hj1, rfl, h11, h21, h31, h4a1, h51, hs1, hl1⟩
    · unfold wp_X1_doSplice wp_X1_refusalOfPair
      exact w1rr0 hj0 h10 h20 h30 (w1rr6 hb1 (br_f (by decide) (br_p rfl (br_f (by decide) (w1set (hA _ _ _ (ds_ref h (by decide)) (fun B hB => w2beg (w2sp1 hj0 (br_f (by decide) (w2sp0 hb1 (br_p rfl (hB))))))))))))
    · unfold wp_X1_doSplice wp_X1_refusalOfPair
      exact w1rr0 hj0 h10 h20 h30 (w1rr1 hj1 h11 (br_f (by decide) (br_n (by decide) (br_f (by decide) (br_p rfl (br_f (by decide) (w1set (hA _ _ _ (ds_ref h (by decide)) (fun B hB => w2beg (w2sp1 hj0 (br_f (by decide) (w2sp1 hj1 (br_n (by decide) ⟨vp_in_nI hj0 (by decide), br_f (lne hj0 h4a0 (by decide)) ⟨vp_in_nI hj1 (by decide), br_p (leq hj1 h2a1) (hB)⟩⟩)))))))))))))
    · unfold wp_X1_doSplice wp_X1_refusalOfPair
      exact w1rr0 hj0 h10 h20 h30 (w1rr2 hj1 h11 h21 h31 (br_f (by decide) (br_n (by decide) (br_f (by decide) (br_n (by decide) (br_f (by decide) (br_p rfl (br_f (by decide) (w1set (hA _ _ _ (ds_ref h (by decide)) (fun B hB => w2beg (w2sp1 hj0 (br_f (by decide) (w2sp1 hj1 (br_n (by decide) ⟨vp_in_nI hj0 (by decide), br_f (lne hj0 h4a0 (by decide)) ⟨vp_in_nI hj1 (by decide), br_n (lne hj1 h4a1 (by decide)) ⟨vp_in_nI hj0 (by decide), br_f (lne hj0 h4a0 (by decide)) ⟨vp_in_nI hj1 (by decide), br_p (leq hj1 h4a1) (hB)⟩⟩⟩⟩)))))))))))))))
    · exact main j0 a0 b0 n0 s0 j1 a1 b1 n1 s1 hj0 rfl h10 h20 h30 h4a0 h50 hs0 hl0 hj1 rfl h11 h21 h31 h4a1 h51 hs1 hl1
end Spl3
