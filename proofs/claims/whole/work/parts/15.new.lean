section NewLoad
variable {L : List Nat} {kd : Nat → Nat} {so nu : Nat → Int32} {fr : Nat → Option Nat} {ln : Nat → Nat} {ar : Nat → Nat → Int64} {st sz tg sn sk st' sz' tg' : Nat → Int32} {ce ce' : Nat → Int64} {id : Nat → Nat} {R T Sh R' T' : Nat}
theorem up_s {α : Type} (f : Nat → α) (k : Nat) (v : α) : va_up f k v k = v := va_up_self f k v
theorem up_n {α : Type} (f : Nat → α) {k j : Nat} (v : α) (h : j ≠ k) : va_up f k v j = f j := va_up_ne f v h
theorem pool_new {q b n s k : Nat} {nv : Int32} {f : Nat → Int64} (hP : Pool L kd so nu fr ln ar st sz tg sn sk ce id R T Sh) (hq : q ∉ L) (hb : b ∉ L ++ [q]) (hR : R ≤ R') (hT : T ≤ T')
    (hst : ∀ r, r < R → st' r = st r ∧ sz' r = sz r) (htg : ∀ t, t < T → tg' t = tg t) (hce : ∀ x, x < 24 * R → ce' x = ce x) (hn : n ≤ 24) (hs : s ≤ 8)
    (h8 : s = 8 → n = 0 ∧ k = T ∧ T < T' ∧ tg' T = nv) (h7 : s < 8 → nv = nI n ∧ k = R ∧ R < R' ∧ st' R = nI s ∧ sz' R = nI n ∧ ∀ j, j < n → fR s sn sk Sh (f j) (ce' (24 * R + j))) :
    Pool ((L ++ [q]) ++ [b]) (va_up (va_up kd q 0) b 1) (va_up (va_up so q 0) q (nI s)) (va_up (va_up nu q 0) q nv) (va_up (va_up fr q none) q (some b)) (va_up ln b n) (va_up ar b f) st' sz' tg' sn sk ce' (va_up id q k) R' T' Sh := by
  obtain ⟨p1, p2, p3, p4⟩ := hP
  have hbq : b ≠ q := fun e => hb (by rw [e]; simp)
  have hbL : b ∉ L := fun e => hb (by simp [e])
  have cs : ∀ a, a ∈ (L ++ [q]) ++ [b] ∧ va_up (va_up kd q 0) b 1 a = 0 → a = q ∨ ((a ∈ L ∧ kd a = 0) ∧ a ≠ q ∧ a ≠ b) := by
    intro a ⟨h1, h2⟩
    by_cases e1 : a = b
    · subst e1; rw [up_s] at h2; cases h2
    · rw [up_n _ _ e1] at h2
      by_cases e2 : a = q
      · exact Or.inl e2
      · rw [up_n _ _ e2] at h2
        simp [e1, e2] at h1
        exact Or.inr ⟨⟨h1, h2⟩, e2, e1⟩
  have s8 : ∀ x : Nat, x ≤ 8 → (nI x = 8 ↔ x = 8) := fun x hx => nI_eq (a := x) (b := 8) (by omega) (by decide)
  refine ⟨fun a ha => ?_, fun a a' ha ha' hso hid => ?_, fun a a' ha ha' hfr => ?_, p4⟩
  · rcases cs a ha with rfl | ⟨hl, e1, e2⟩
    · refine ⟨b, n, s, up_s _ _ _, ⟨by simp, up_s _ _ _⟩, up_s _ _ _, hn, hs, up_s _ _ _, fun e => ?_, fun e => ?_⟩
      · obtain ⟨z1, z2, z3, z4⟩ := h8 e
        rw [up_s, up_s]
        exact ⟨z1, by omega, by rw [z2]; exact z4⟩
      · obtain ⟨z1, z2, z3, z4, z5, z6⟩ := h7 e
        rw [up_s, up_s, up_s]
        refine ⟨z1, by omega, by rw [z2]; exact z4, by rw [z2]; exact z5, ?_⟩
        rw [z2]
        exact z6
    · obtain ⟨b0, n0, s0, l1, ⟨l2, l3⟩, l4, l5, l6, l7, l8, l9⟩ := p1 a hl
      have b1 : b0 ≠ q := fun e => hq (e ▸ l2)
      have b2 : b0 ≠ b := fun e => hbL (e ▸ l2)
      refine ⟨b0, n0, s0, by rw [up_n _ _ e1, up_n _ _ e1]; exact l1, ⟨by simp [l2], by rw [up_n _ _ b2, up_n _ _ b1]; exact l3⟩, by rw [up_n _ _ b2]; exact l4, l5, l6, by rw [up_n _ _ e1, up_n _ _ e1]; exact l7, fun e => ?_, fun e => ?_⟩
      · obtain ⟨z1, z2, z3⟩ := l8 e
        rw [up_n _ _ e1, up_n _ _ e1, up_n _ _ e1]
        exact ⟨z1, by omega, by rw [htg _ z2]; exact z3⟩
      · obtain ⟨z1, z2, z3, z4, z5⟩ := l9 e
        rw [up_n _ _ e1, up_n _ _ e1, up_n _ _ e1, up_n _ _ b2]
        refine ⟨z1, by omega, by rw [(hst _ z2).1]; exact z3, by rw [(hst _ z2).2]; exact z4, fun j hj => ?_⟩
        rw [hce _ (by omega)]
        exact z5 j hj
  · have mix : ∀ x, (x ∈ L ∧ kd x = 0) → x ≠ q → (nI s = 8 ↔ so x = 8) → ¬ k = id x := by
      intro x hx hxq hso hid
      obtain ⟨b0, n0, s0, l1, ⟨l2, l3⟩, l4, l5, l6, l7, l8, l9⟩ := p1 x hx
      rw [l7, s8 s hs, s8 s0 l6] at hso
      by_cases e : s = 8
      · have := (l8 (hso.mp e)).2.1
        have := (h8 e).2.1
        omega
      · have h0 : s0 < 8 := by
          have : ¬ s0 = 8 := fun q => e (hso.mpr q)
          omega
        have := (l9 h0).2.1
        have := (h7 (by omega)).2.1
        omega
    rcases cs a ha with rfl | ⟨hl, e1, e2⟩
    · rcases cs a' ha' with rfl | ⟨hl', e1', e2'⟩
      · rfl
      · rw [up_s, up_n _ _ e1', up_n _ _ e1'] at hso
        rw [up_s, up_n _ _ e1'] at hid
        exact absurd hid (mix a' hl' e1' hso)
    · rcases cs a' ha' with rfl | ⟨hl', e1', e2'⟩
      · rw [up_s, up_n _ _ e1, up_n _ _ e1] at hso
        rw [up_s, up_n _ _ e1] at hid
        exact absurd hid.symm (mix a hl e1 hso.symm)
      · rw [up_n _ _ e1, up_n _ _ e1, up_n _ _ e1', up_n _ _ e1'] at hso
        rw [up_n _ _ e1, up_n _ _ e1'] at hid
        exact p2 a a' hl hl' hso hid
  · rcases cs a ha with rfl | ⟨hl, e1, e2⟩
    · rcases cs a' ha' with rfl | ⟨hl', e1', e2'⟩
      · rfl
      · rw [up_s, up_n _ _ e1', up_n _ _ e1'] at hfr
        obtain ⟨b0, n0, s0, l1, ⟨l2, l3⟩, -⟩ := p1 a' hl'
        rw [l1] at hfr
        cases hfr
        exact absurd l2 hbL
    · rcases cs a' ha' with rfl | ⟨hl', e1', e2'⟩
      · rw [up_s, up_n _ _ e1, up_n _ _ e1] at hfr
        obtain ⟨b0, n0, s0, l1, ⟨l2, l3⟩, -⟩ := p1 a hl
        rw [l1] at hfr
        cases hfr
        exact absurd l2 hbL
      · rw [up_n _ _ e1, up_n _ _ e1, up_n _ _ e1', up_n _ _ e1'] at hfr
        exact p3 a a' hl hl' hfr
theorem ld_new {q b a : Nat} (hq : q ∉ L) (hb : b ∉ L ++ [q]) (h : a ∈ L ∧ kd a = 0) : a ≠ q ∧ (a ∈ (L ++ [q]) ++ [b] ∧ va_up (va_up kd q 0) b 1 a = 0) := by
  have e1 : a ≠ q := fun e => hq (e ▸ h.1)
  have e2 : a ≠ b := fun e => hb (by rw [← e]; simp [h.1])
  exact ⟨e1, by simp [h.1], by rw [up_n _ _ e2, up_n _ _ e1]; exact h.2⟩
theorem ldq_new {q b : Nat} (hb : b ∉ L ++ [q]) : q ∈ (L ++ [q]) ++ [b] ∧ va_up (va_up kd q 0) b 1 q = 0 := by
  have e : q ≠ b := fun e => hb (by rw [← e]; simp)
  exact ⟨by simp, by rw [up_n _ _ e, up_s]⟩
theorem spn_new {sp : Nat → Option Nat} {lies wh : Nat → Int32} {q b s k m : Nat} (hS : Spn sp L kd so lies wh id) (hq : q ∉ L) (hb : b ∉ L ++ [q]) (hs : s ≤ 8) {x : Int32} (hx : (s = 8 → x = 2) ∧ (s < 8 → x = 1)) :
    Spn (va_up sp m (some q)) ((L ++ [q]) ++ [b]) (va_up (va_up kd q 0) b 1) (va_up (va_up so q 0) q (nI s)) (upd lies m x) (upd wh m (nI k)) (va_up id q k) := by
  intro i hi
  by_cases e : i = m
  · subst e
    refine Or.inr ⟨q, up_s _ _ _, ldq_new hb, by rw [up_s]; exact pk_us, fun z => ?_, fun z => ?_⟩
    · rw [up_s] at z
      rw [pk_us]
      exact hx.1 ((nI_eq (a := s) (b := 8) (by omega) (by decide)).mp z)
    · rw [up_s] at z
      rw [pk_us]
      refine hx.2 (Nat.lt_of_le_of_ne hs (fun w => z (by rw [w]; rfl)))
  · rw [up_n _ _ e, pk_un e, pk_un e]
    rcases hS i hi with h | ⟨a, h1, h2, h3, h4, h5⟩
    · exact Or.inl h
    · obtain ⟨e1, e2⟩ := ld_new hq hb h2
      refine Or.inr ⟨a, h1, e2, by rw [up_n _ _ e1]; exact h3, fun z => ?_, fun z => ?_⟩
      · rw [up_n _ _ e1, up_n _ _ e1] at z; exact h4 z
      · rw [up_n _ _ e1, up_n _ _ e1] at z; exact h5 z
theorem bin_new {br : Option Nat} {f5 g14 g15 : Int32} {bf mb : Nat → Int64} {bc q b k n : Nat} {sv : Int32} (hP : Pool L kd so nu fr ln ar st sz tg sn sk ce id R T Sh) (hB : Bin br f5 g14 g15 bf mb L kd so fr ln sn sk id Sh bc) (hq : q ∉ L) (hb : b ∉ L ++ [q]) :
    Bin br f5 g14 g15 bf mb ((L ++ [q]) ++ [b]) (va_up (va_up kd q 0) b 1) (va_up (va_up so q 0) q sv) (va_up (va_up fr q none) q (some b)) (va_up ln b n) sn sk (va_up id q k) Sh bc := by
  rcases hB with h | ⟨a, b0, s, bp, h1, h2, h3, h4, h5, h6, h7, h8, h9, h10⟩
  · exact Or.inl h
  · obtain ⟨e1, e2⟩ := ld_new hq hb h2
    have eb : b0 ≠ b := by
      obtain ⟨b1, n1, s1, l1, ⟨l2, -⟩, -⟩ := hP.1 a h2
      rw [l1] at h5
      cases h5
      exact fun e => hb (by rw [← e]; simp [l2])
    exact Or.inr ⟨a, b0, s, bp, h1, e2, by rw [up_n _ _ e1, up_n _ _ e1]; exact h3, h4, by rw [up_n _ _ e1, up_n _ _ e1]; exact h5, by rw [up_n _ _ e1]; exact h6, h7, h8, by rw [up_n _ _ eb]; exact h9, h10⟩
end NewLoad
