section SplA
theorem told_rel {i i' : Nat} {C C' : cS} {M M' : mS} {r : Int32} {K : Int32 → mS → Prop} (hi : i ≤ i') (hd : dsP i C M r C' r M') (k : ∀ M'', Rel i' C' M'' → K r M'') : wp_X2_told r M' K := by
  obtain ⟨-, h0, h7, h8, h9, h4, h5, -, -⟩ := hd
  have h0 := rel0_up hi h0
  unfold wp_X2_told
  refine ⟨fun c => ⟨fun c5 => k _ ?_, fun c5 => k _ ?_⟩, fun c => ⟨fun c5 => k _ ?_, fun c5 => k _ ?_⟩⟩
  · exact ⟨rel0_of h0 ⟨rfl, rfl, rfl, rfl, rfl, rfl, rfl, rfl, rfl, rfl, rfl⟩ ⟨rfl, rfl, rfl, rfl, rfl, rfl, rfl⟩ ⟨rfl, rfl, rfl, rfl, rfl, rfl, rfl, rfl, rfl, rfl⟩ ⟨rfl, rfl, rfl, rfl, rfl, rfl, rfl, rfl, rfl⟩, h7, h8, h9⟩
  · exact ⟨rel0_of h0 ⟨rfl, rfl, rfl, rfl, rfl, rfl, rfl, rfl, rfl, rfl, rfl⟩ ⟨rfl, rfl, rfl, rfl, rfl, rfl, rfl⟩ ⟨rfl, rfl, rfl, rfl, rfl, rfl, rfl, rfl, rfl, rfl⟩ ⟨rfl, rfl, rfl, rfl, rfl, rfl, rfl, rfl, rfl⟩, h7, h8, h9.trans (h5 c5)⟩
  · exact ⟨rel0_of h0 ⟨rfl, rfl, rfl, rfl, rfl, rfl, rfl, rfl, rfl, rfl, rfl⟩ ⟨rfl, rfl, rfl, rfl, rfl, rfl, rfl⟩ ⟨rfl, rfl, rfl, rfl, rfl, rfl, rfl, rfl, rfl, rfl⟩ ⟨rfl, rfl, rfl, rfl, rfl, rfl, rfl, rfl, rfl⟩, h7, h8.trans (h4 c), h9⟩
  · exact ⟨rel0_of h0 ⟨rfl, rfl, rfl, rfl, rfl, rfl, rfl, rfl, rfl, rfl, rfl⟩ ⟨rfl, rfl, rfl, rfl, rfl, rfl, rfl⟩ ⟨rfl, rfl, rfl, rfl, rfl, rfl, rfl, rfl, rfl, rfl⟩ ⟨rfl, rfl, rfl, rfl, rfl, rfl, rfl, rfl, rfl⟩, h7, h8.trans (h4 c), h9.trans (h5 c5)⟩
theorem rel0_23 {i : Nat} {C : cS} {M : mS} (h : Rel0 i C M) (t : Int32) : Rel0 i C (M.si 23 t) :=
  rel0_of h ⟨rfl, rfl, rfl, rfl, rfl, rfl, rfl, rfl, rfl, rfl, rfl⟩ ⟨rfl, rfl, rfl, rfl, rfl, rfl, rfl⟩ ⟨rfl, rfl, rfl, rfl, rfl, rfl, rfl, rfl, rfl, rfl⟩ ⟨rfl, rfl, rfl, rfl, rfl, rfl, rfl, rfl, rfl⟩
theorem rng32 (p : Int32) : -1000000000000 < p.toInt64.toInt ∧ p.toInt64.toInt < 1000000000000 := by
  have := i32_lo p
  rw [t64]
  omega
theorem sim_splice {i : Nat} {C : cS} {M : mS} (h : Rel i C M) (hi5 : i < 512) (p0 p1 p2 p3 p4 : Int32) : wp_X1_splice p0 p1 p2 p3 p4 C (fun r1 C' => wp_X2_splice p0 p1 p2 p3 p4 M (fun r2 M' => r1 = r2 ∧ Rel (i + 1) C' M')) := by
  unfold wp_X1_splice
  refine sim_ds (rel0_23 h.1 0) (by omega) p0 p1 p2 p3.toInt64 p4 (rng32 p3) (fun r C' M' hd hB => ?_)
  have hr := hd.2.2.2.2.2.2.2.1
  refine ⟨fun c => hB _ (told_rel (Nat.le_succ i) hd (fun M'' hM => br_f ?_ ⟨rfl, hM⟩)), fun c => hB _ (told_rel (Nat.le_succ i) hd (fun M'' hM => br_t (by rw [c]; decide) ⟨rfl, hM⟩))⟩
  rcases hr with hr | hr
  · exact absurd hr c
  · intro q
    have := hr.1
    rw [i_lt] at this
    rw [i_le] at q
    omega
end SplA
