section Ops1
theorem w1set {a b c : Int32} {C : cS} {K : Int32 → cS → Prop} (k : K a (((C.si 7 a).si 8 b).si 9 c)) : wp_X1_settle a b c C K := k
theorem w1emp {C : cS} {K : cS → Prop} (k : K (((C.sbr none).si 5 0).si 6 0)) : wp_X1_emptyBin C K := k
theorem w2beg {S : mS} {K : mS → Prop} (k : K ((S.si 19 0).si 20 0)) : wp_X2_begin S K := k
theorem sim_clear {i : Nat} {C : cS} {M : mS} (h : Rel i C M) (p0 : Int32) : wp_X1_clear p0 C (fun r1 C' => wp_X2_clear p0 M (fun r2 M' => r1 = r2 ∧ Rel (i + 1) C' M')) := by
  unfold wp_X1_clear wp_X2_clear
  rcases spc p0 with hb | ⟨j, hj, rfl⟩
  · refine w1sp0 hb (br_p rfl (w1set (w2beg ?_)))
    refine w2sp0 hb (br_p rfl (w2told (by decide) (by decide) ⟨rfl, rel_tell (rel0_up (Nat.le_succ i) h.1) ⟨rfl, rfl⟩ ⟨rfl, rfl, rfl, rfl, rfl, rfl, rfl, rfl, rfl⟩ rfl rfl rfl⟩))
  · refine w1sp1 hj (br_n (by decide) ⟨vp_in_nI hj (by decide), w1set (w2beg ?_)⟩)
    refine w2sp1 hj (br_n (by decide) ⟨vp_in_nI hj (by decide), vp_in_nI hj (by decide), w2told (by decide) (by decide) ⟨rfl, ?_⟩⟩)
    rw [ck (by omega)]
    obtain ⟨⟨id, R, T, Sh, cn, bc, hi, hN, hL, hP, hS, hB⟩, hr⟩ := h
    refine rel_tell (rel0_up (Nat.le_succ i) (M := ((M.sa 4 j 0).sa 5 j 0)) ⟨id, R, T, Sh, cn, bc, hi, hN, hL, hP, ?_, hB⟩) ⟨rfl, rfl⟩ ⟨rfl, rfl, rfl, rfl, rfl, rfl, rfl, rfl, rfl⟩ rfl rfl rfl
    intro x hx
    by_cases e : x = j
    · subst e
      exact Or.inl ⟨by simp [csl_ssp, va_up], by simp [msl_sa, va_up, upd]⟩
    · have := hS x hx
      simpa [csl_ssp, msl_sa, va_up, upd, e] using this
end Ops1
