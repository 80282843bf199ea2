section PureNum
theorem br_n {c A B : Prop} (h : ¬ c) (a : A) : (¬ c → A) ∧ (c → B) := ⟨fun _ => a, fun q => absurd q h⟩
theorem br_p {c A B : Prop} (h : c) (b : B) : (¬ c → A) ∧ (c → B) := ⟨fun q => absurd h q, fun _ => b⟩
theorem spc (p : Int32) : (p < 0 ∨ (8 : Int32) ≤ p) ∨ ∃ j, j < 8 ∧ p = nI j := by
  rcases pk_ix p (n := 8) (by decide) with h | h | h
  · exact Or.inl (Or.inl h)
  · exact Or.inl (Or.inr h)
  · exact Or.inr h
theorem i_le {a b : Int32} : a ≤ b ↔ a.toInt ≤ b.toInt := Int32.le_iff_toInt_le
theorem i_lt {a b : Int32} : a < b ↔ a.toInt < b.toInt := Int32.lt_iff_toInt_lt
theorem i_ext {a b : Int32} (h : a.toInt = b.toInt) : a = b := Int32.toInt_inj.mp h
theorem j_le {a b : Int64} : a ≤ b ↔ a.toInt ≤ b.toInt := Int64.le_iff_toInt_le
theorem j_lt {a b : Int64} : a < b ↔ a.toInt < b.toInt := Int64.lt_iff_toInt_lt
theorem w1sp0 {p : Int32} {K : Int32 → Prop} (h : p < 0 ∨ (8 : Int32) ≤ p) (k : K 0) : wp_X1_isSpindle p K :=
  ⟨fun _ => k, fun c => ⟨fun _ => k, fun c2 => (h.elim c c2).elim⟩⟩
theorem w1sp1 {j : Nat} {K : Int32 → Prop} (hj : j < 8) (k : K 1) : wp_X1_isSpindle (nI j) K :=
  ⟨fun c => absurd c (nI_pos (by omega)), fun _ => ⟨fun c => absurd c (nI_ge (a := j) (b := 8) hj (by decide)), fun _ => k⟩⟩
theorem sp7 {p : Int32} : (7 : Int32) < p ↔ (8 : Int32) ≤ p := by
  rw [i_lt, i_le]
  have h1 : (7 : Int32).toInt = 7 := by decide
  have h2 : (8 : Int32).toInt = 8 := by decide
  omega
theorem w2sp0 {p : Int32} {K : Int32 → Prop} (h : p < 0 ∨ (8 : Int32) ≤ p) (k : K 0) : wp_X2_isSpindle p K :=
  ⟨fun _ => k, fun c => ⟨fun _ => k, fun c2 => (h.elim c (fun q => c2 (sp7.mpr q))).elim⟩⟩
theorem w2sp1 {j : Nat} {K : Int32 → Prop} (hj : j < 8) (k : K 1) : wp_X2_isSpindle (nI j) K :=
  ⟨fun c => absurd c (nI_pos (by omega)), fun _ => ⟨fun c => absurd (sp7.mp c) (nI_ge (a := j) (b := 8) hj (by decide)), fun _ => k⟩⟩
theorem ck {j : Nat} (h : j < 2 ^ 31) : (nI j).toNatClampNeg = j := nI_clamp h
theorem w1num {s : Nat} {K : Int32 → Prop} (hs : s ≤ 8) (k0 : 5 ≤ s → K 0) (k1 : s < 5 → K 1) : wp_X1_isOfNumbers (nI s) K :=
  ⟨fun c => k0 ((nI_leI (a := 5) (by decide) (by omega)).mp c), fun c => k1 (Nat.lt_of_not_le fun q => c ((nI_leI (a := 5) (by decide) (by omega)).mpr q))⟩
theorem w2num {s : Nat} {K : Int32 → Prop} (hs : s ≤ 8) (k0 : 5 ≤ s → K 0) (k1 : s < 5 → K 1) : wp_X2_isOfNumbers (nI s) K :=
  ⟨fun c => k0 ((nI_leI (a := 5) (by decide) (by omega)).mp c), fun c => k1 (Nat.lt_of_not_le fun q => c ((nI_leI (a := 5) (by decide) (by omega)).mpr q))⟩
-- refusals of a spindle
theorem w1rr6 {p : Int32} {C : cS} {K : Int32 → cS → Prop} (h : p < 0 ∨ (8 : Int32) ≤ p) (k : K 6 C) : wp_X1_refusalOfReel p C K := w1sp0 h (br_p rfl k)
theorem w1rr1 {j : Nat} {C : cS} {K : Int32 → cS → Prop} (hj : j < 8) (h : C.sp j = none) (k : K 1 C) : wp_X1_refusalOfReel (nI j) C K :=
  w1sp1 hj (br_n (by decide) ⟨vp_in_nI hj (by decide), by rw [ck (by omega)]; exact ⟨fun _ => k, fun y e => by rw [h] at e; cases e⟩⟩)
theorem w1rr2 {j a : Nat} {C : cS} {K : Int32 → cS → Prop} (hj : j < 8) (h : C.sp j = some a) (hl : C.ld a) (hs : C.so a = 8) (k : K 2 C) : wp_X1_refusalOfReel (nI j) C K :=
  w1sp1 hj (br_n (by decide) ⟨vp_in_nI hj (by decide), by rw [ck (by omega)]; exact ⟨fun e => (by rw [h] at e; cases e), fun y e => by rw [h] at e; cases e; exact ⟨hl, br_p hs k⟩⟩⟩)
theorem w1rr0 {j a : Nat} {C : cS} {K : Int32 → cS → Prop} (hj : j < 8) (h : C.sp j = some a) (hl : C.ld a) (hs : ¬ C.so a = 8) (k : K 0 C) : wp_X1_refusalOfReel (nI j) C K :=
  w1sp1 hj (br_n (by decide) ⟨vp_in_nI hj (by decide), by rw [ck (by omega)]; exact ⟨fun e => (by rw [h] at e; cases e), fun y e => by rw [h] at e; cases e; exact ⟨hl, br_n hs k⟩⟩⟩)
theorem w2nr6 {p : Int32} {S : mS} {K : Int32 → mS → Prop} (h : p < 0 ∨ (8 : Int32) ≤ p) (k : K 6 S) : wp_X2_noReel p S K := w2sp0 h (br_p rfl k)
theorem w2nr1 {j : Nat} {S : mS} {K : Int32 → mS → Prop} (hj : j < 8) (h : S.ia 4 j = 0) (k : K 1 S) : wp_X2_noReel (nI j) S K :=
  w2sp1 hj (br_n (by decide) ⟨vp_in_nI hj (by decide), by rw [ck (by omega)]; exact br_p h k⟩)
theorem w2nr2 {j : Nat} {S : mS} {K : Int32 → mS → Prop} (hj : j < 8) (h : S.ia 4 j = 2) (k : K 2 S) : wp_X2_noReel (nI j) S K :=
  w2sp1 hj (br_n (by decide) ⟨vp_in_nI hj (by decide), by rw [ck (by omega)]; exact br_n (by rw [h]; decide) ⟨vp_in_nI hj (by decide), br_p h k⟩⟩)
theorem w2nr0 {j : Nat} {S : mS} {K : Int32 → mS → Prop} (hj : j < 8) (h : S.ia 4 j = 1) (k : K 0 S) : wp_X2_noReel (nI j) S K :=
  w2sp1 hj (br_n (by decide) ⟨vp_in_nI hj (by decide), by rw [ck (by omega)]; exact br_n (by rw [h]; decide) ⟨vp_in_nI hj (by decide), br_n (by rw [h]; decide) k⟩⟩)
-- told
theorem w2told {c : Int32} {S : mS} {K : Int32 → mS → Prop} (h4 : ¬ c = 4) (h5 : ¬ c = 5) (k : K c (((S.si 18 c).si 19 0).si 20 0)) : wp_X2_told c S K := br_f h4 (br_f h5 k)
theorem w2told4 {S : mS} {K : Int32 → mS → Prop} (k : K 4 ((S.si 18 4).si 20 0)) : wp_X2_told 4 S K := br_t rfl (br_f (by decide) k)
theorem w2told5 {S : mS} {K : Int32 → mS → Prop} (k : K 5 ((S.si 18 5).si 19 0)) : wp_X2_told 5 S K := br_f (by decide) (br_t rfl k)
/-- what the class packs a shot into -/
def enc (k : Nat) (kd nb : Int32) : Int64 := ((((nI (k + 1)).toInt64 <<< (((34 : Int32)).toInt64 &&& 63)) ||| (kd.toInt64 <<< (((32 : Int32)).toInt64 &&& 63))) ||| (nb.toInt64 &&& (4294967295 : Int64)))
def kof (x : Int64) : Int32 := (((x.toUInt64 >>> (((32 : Int32)).toInt64.toUInt64 &&& Int64.toUInt64 63)).toInt64).toInt32 &&& (3 : Int32))
end PureNum
