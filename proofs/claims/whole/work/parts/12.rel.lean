section RelDefs
theorem csl_si (C : cS) (k : Nat) (v : Int32) : (C.si k v).fi = upd C.fi k v ∧ (C.si k v).sp = C.sp ∧ (C.si k v).cu = C.cu ∧ (C.si k v).bf = C.bf ∧ (C.si k v).br = C.br ∧ (C.si k v).L = C.L ∧ (C.si k v).kd = C.kd ∧ (C.si k v).so = C.so ∧ (C.si k v).nu = C.nu ∧ (C.si k v).fr = C.fr ∧ (C.si k v).ln = C.ln ∧ (C.si k v).ar = C.ar := ⟨rfl, rfl, rfl, rfl, rfl, rfl, rfl, rfl, rfl, rfl, rfl, rfl⟩
theorem csl_ssp (C : cS) (k : Nat) (v : Option Nat) : (C.ssp k v).fi = C.fi ∧ (C.ssp k v).sp = va_up C.sp k v ∧ (C.ssp k v).cu = C.cu ∧ (C.ssp k v).bf = C.bf ∧ (C.ssp k v).br = C.br ∧ (C.ssp k v).L = C.L ∧ (C.ssp k v).kd = C.kd ∧ (C.ssp k v).so = C.so ∧ (C.ssp k v).nu = C.nu ∧ (C.ssp k v).fr = C.fr ∧ (C.ssp k v).ln = C.ln ∧ (C.ssp k v).ar = C.ar := ⟨rfl, rfl, rfl, rfl, rfl, rfl, rfl, rfl, rfl, rfl, rfl, rfl⟩
theorem csl_scu (C : cS) (k : Nat) (v : Int32) : (C.scu k v).fi = C.fi ∧ (C.scu k v).sp = C.sp ∧ (C.scu k v).cu = upd C.cu k v ∧ (C.scu k v).bf = C.bf ∧ (C.scu k v).br = C.br ∧ (C.scu k v).L = C.L ∧ (C.scu k v).kd = C.kd ∧ (C.scu k v).so = C.so ∧ (C.scu k v).nu = C.nu ∧ (C.scu k v).fr = C.fr ∧ (C.scu k v).ln = C.ln ∧ (C.scu k v).ar = C.ar := ⟨rfl, rfl, rfl, rfl, rfl, rfl, rfl, rfl, rfl, rfl, rfl, rfl⟩
theorem csl_ccu (C : cS) (x y n : Nat) : (C.ccu x y n).fi = C.fi ∧ (C.ccu x y n).sp = C.sp ∧ (C.ccu x y n).cu = va_cpy C.cu C.cu x y n ∧ (C.ccu x y n).bf = C.bf ∧ (C.ccu x y n).br = C.br ∧ (C.ccu x y n).L = C.L ∧ (C.ccu x y n).kd = C.kd ∧ (C.ccu x y n).so = C.so ∧ (C.ccu x y n).nu = C.nu ∧ (C.ccu x y n).fr = C.fr ∧ (C.ccu x y n).ln = C.ln ∧ (C.ccu x y n).ar = C.ar := ⟨rfl, rfl, rfl, rfl, rfl, rfl, rfl, rfl, rfl, rfl, rfl, rfl⟩
theorem csl_cpb (C : cS) (b x y n : Nat) : (C.cpb b x y n).fi = C.fi ∧ (C.cpb b x y n).sp = C.sp ∧ (C.cpb b x y n).cu = C.cu ∧ (C.cpb b x y n).bf = va_cpy (C.ar b) C.bf x y n ∧ (C.cpb b x y n).br = C.br ∧ (C.cpb b x y n).L = C.L ∧ (C.cpb b x y n).kd = C.kd ∧ (C.cpb b x y n).so = C.so ∧ (C.cpb b x y n).nu = C.nu ∧ (C.cpb b x y n).fr = C.fr ∧ (C.cpb b x y n).ln = C.ln ∧ (C.cpb b x y n).ar = C.ar := ⟨rfl, rfl, rfl, rfl, rfl, rfl, rfl, rfl, rfl, rfl, rfl, rfl⟩
theorem csl_sbr (C : cS) (v : Option Nat) : (C.sbr v).fi = C.fi ∧ (C.sbr v).sp = C.sp ∧ (C.sbr v).cu = C.cu ∧ (C.sbr v).bf = C.bf ∧ (C.sbr v).br = v ∧ (C.sbr v).L = C.L ∧ (C.sbr v).kd = C.kd ∧ (C.sbr v).so = C.so ∧ (C.sbr v).nu = C.nu ∧ (C.sbr v).fr = C.fr ∧ (C.sbr v).ln = C.ln ∧ (C.sbr v).ar = C.ar := ⟨rfl, rfl, rfl, rfl, rfl, rfl, rfl, rfl, rfl, rfl, rfl, rfl⟩
theorem csl_sar (C : cS) (b : Nat) (g : Nat → Int64) : (C.sar b g).fi = C.fi ∧ (C.sar b g).sp = C.sp ∧ (C.sar b g).cu = C.cu ∧ (C.sar b g).bf = C.bf ∧ (C.sar b g).br = C.br ∧ (C.sar b g).L = C.L ∧ (C.sar b g).kd = C.kd ∧ (C.sar b g).so = C.so ∧ (C.sar b g).nu = C.nu ∧ (C.sar b g).fr = C.fr ∧ (C.sar b g).ln = C.ln ∧ (C.sar b g).ar = va_up C.ar b g := ⟨rfl, rfl, rfl, rfl, rfl, rfl, rfl, rfl, rfl, rfl, rfl, rfl⟩
theorem csl_nl (C : cS) (q : Nat) : (C.nl q).fi = C.fi ∧ (C.nl q).sp = C.sp ∧ (C.nl q).cu = C.cu ∧ (C.nl q).bf = C.bf ∧ (C.nl q).br = C.br ∧ (C.nl q).L = C.L ++ [q] ∧ (C.nl q).kd = va_up C.kd q 0 ∧ (C.nl q).so = va_up C.so q 0 ∧ (C.nl q).nu = va_up C.nu q 0 ∧ (C.nl q).fr = va_up C.fr q none ∧ (C.nl q).ln = C.ln ∧ (C.nl q).ar = C.ar := ⟨rfl, rfl, rfl, rfl, rfl, rfl, rfl, rfl, rfl, rfl, rfl, rfl⟩
theorem csl_na (C : cS) (q n : Nat) (f : Nat → Int64) : (C.na q n f).fi = C.fi ∧ (C.na q n f).sp = C.sp ∧ (C.na q n f).cu = C.cu ∧ (C.na q n f).bf = C.bf ∧ (C.na q n f).br = C.br ∧ (C.na q n f).L = C.L ++ [q] ∧ (C.na q n f).kd = va_up C.kd q 1 ∧ (C.na q n f).so = C.so ∧ (C.na q n f).nu = C.nu ∧ (C.na q n f).fr = C.fr ∧ (C.na q n f).ln = va_up C.ln q n ∧ (C.na q n f).ar = va_up C.ar q f := ⟨rfl, rfl, rfl, rfl, rfl, rfl, rfl, rfl, rfl, rfl, rfl, rfl⟩
theorem csl_slo (C : cS) (q : Nat) (v : Int32) : (C.slo q v).fi = C.fi ∧ (C.slo q v).sp = C.sp ∧ (C.slo q v).cu = C.cu ∧ (C.slo q v).bf = C.bf ∧ (C.slo q v).br = C.br ∧ (C.slo q v).L = C.L ∧ (C.slo q v).kd = C.kd ∧ (C.slo q v).so = va_up C.so q v ∧ (C.slo q v).nu = C.nu ∧ (C.slo q v).fr = C.fr ∧ (C.slo q v).ln = C.ln ∧ (C.slo q v).ar = C.ar := ⟨rfl, rfl, rfl, rfl, rfl, rfl, rfl, rfl, rfl, rfl, rfl, rfl⟩
theorem csl_sln (C : cS) (q : Nat) (v : Int32) : (C.sln q v).fi = C.fi ∧ (C.sln q v).sp = C.sp ∧ (C.sln q v).cu = C.cu ∧ (C.sln q v).bf = C.bf ∧ (C.sln q v).br = C.br ∧ (C.sln q v).L = C.L ∧ (C.sln q v).kd = C.kd ∧ (C.sln q v).so = C.so ∧ (C.sln q v).nu = va_up C.nu q v ∧ (C.sln q v).fr = C.fr ∧ (C.sln q v).ln = C.ln ∧ (C.sln q v).ar = C.ar := ⟨rfl, rfl, rfl, rfl, rfl, rfl, rfl, rfl, rfl, rfl, rfl, rfl⟩
theorem csl_slf (C : cS) (q : Nat) (v : Option Nat) : (C.slf q v).fi = C.fi ∧ (C.slf q v).sp = C.sp ∧ (C.slf q v).cu = C.cu ∧ (C.slf q v).bf = C.bf ∧ (C.slf q v).br = C.br ∧ (C.slf q v).L = C.L ∧ (C.slf q v).kd = C.kd ∧ (C.slf q v).so = C.so ∧ (C.slf q v).nu = C.nu ∧ (C.slf q v).fr = va_up C.fr q v ∧ (C.slf q v).ln = C.ln ∧ (C.slf q v).ar = C.ar := ⟨rfl, rfl, rfl, rfl, rfl, rfl, rfl, rfl, rfl, rfl, rfl, rfl⟩
theorem msl_si (S : mS) (k : Nat) (v : Int32) : (S.si k v).fi = upd S.fi k v ∧ (S.si k v).ia = S.ia ∧ (S.si k v).la = S.la := ⟨rfl, rfl, rfl⟩
theorem msl_sa (S : mS) (j k : Nat) (v : Int32) : (S.sa j k v).fi = S.fi ∧ (S.sa j k v).ia = va_up S.ia j (upd (S.ia j) k v) ∧ (S.sa j k v).la = S.la := ⟨rfl, rfl, rfl⟩
theorem msl_sl (S : mS) (j k : Nat) (v : Int64) : (S.sl j k v).fi = S.fi ∧ (S.sl j k v).ia = S.ia ∧ (S.sl j k v).la = va_up S.la j (vp_updL (S.la j) k v) := ⟨rfl, rfl, rfl⟩
def fR (s : Nat) (sn sk : Nat → Int32) (Sh : Nat) (x y : Int64) : Prop := (s < 5 → x = y) ∧ (5 ≤ s → (x = 0 ∧ y = -1) ∨ ∃ k, k < Sh ∧ y = lN k ∧ x = enc k (sk k) (sn k))
/-- a Load a with its row b of n frames, of stock s (8: a tag), beside the reference's reel (or tag) number id a -/
def lR (L : List Nat) (kd : Nat → Nat) (so nu : Nat → Int32) (fr : Nat → Option Nat) (ln : Nat → Nat) (ar : Nat → Nat → Int64) (st sz tg sn sk : Nat → Int32) (ce : Nat → Int64) (id : Nat → Nat) (R T Sh : Nat) (a b n s : Nat) : Prop :=
  fr a = some b ∧ (b ∈ L ∧ kd b = 1) ∧ ln b = n ∧ n ≤ 24 ∧ s ≤ 8 ∧ so a = nI s ∧ (s = 8 → n = 0 ∧ id a < T ∧ tg (id a) = nu a) ∧ (s < 8 → nu a = nI n ∧ id a < R ∧ st (id a) = nI s ∧ sz (id a) = nI n ∧ ∀ j, j < n → fR s sn sk Sh (ar b j) (ce (24 * id a + j)))
def Pool (L : List Nat) (kd : Nat → Nat) (so nu : Nat → Int32) (fr : Nat → Option Nat) (ln : Nat → Nat) (ar : Nat → Nat → Int64) (st sz tg sn sk : Nat → Int32) (ce : Nat → Int64) (id : Nat → Nat) (R T Sh : Nat) : Prop :=
  (∀ a, a ∈ L ∧ kd a = 0 → ∃ b n s, lR L kd so nu fr ln ar st sz tg sn sk ce id R T Sh a b n s) ∧
  (∀ a a', a ∈ L ∧ kd a = 0 → a' ∈ L ∧ kd a' = 0 → (so a = 8 ↔ so a' = 8) → id a = id a' → a = a') ∧
  (∀ a a', a ∈ L ∧ kd a = 0 → a' ∈ L ∧ kd a' = 0 → fr a = fr a' → a = a') ∧ ∀ k, k < Sh → ∃ d, d < 3 ∧ sk k = nI d
def Spn (sp : Nat → Option Nat) (L : List Nat) (kd : Nat → Nat) (so : Nat → Int32) (lies wh : Nat → Int32) (id : Nat → Nat) : Prop :=
  ∀ i, i < 8 → (sp i = none ∧ lies i = 0) ∨ ∃ a, sp i = some a ∧ (a ∈ L ∧ kd a = 0) ∧ wh i = nI (id a) ∧ (so a = 8 → lies i = 2) ∧ (¬ so a = 8 → lies i = 1)
def Bin (br : Option Nat) (f5 g14 g15 : Int32) (bf mb : Nat → Int64) (L : List Nat) (kd : Nat → Nat) (so : Nat → Int32) (fr : Nat → Option Nat) (ln : Nat → Nat) (sn sk : Nat → Int32) (id : Nat → Nat) (Sh bc : Nat) : Prop :=
  (br = none ∧ bc = 0) ∨ ∃ a b s bp, br = some a ∧ (a ∈ L ∧ kd a = 0) ∧ so a = nI s ∧ s < 8 ∧ fr a = some b ∧ g14 = nI (id a) ∧ f5 = nI bp ∧ g15 = nI bp ∧ bp + bc ≤ ln b ∧ ∀ j, j < bc → fR s sn sk Sh (bf j) (mb j)
def Num (f g : Nat → Int32) (R T Sh cn bc : Nat) : Prop := f 10 = nI R ∧ g 3 = nI R ∧ g 7 = nI T ∧ f 13 = nI Sh ∧ g 10 = nI Sh ∧ f 2 = nI cn ∧ g 12 = nI cn ∧ cn ≤ 16 ∧ f 6 = nI bc ∧ g 16 = nI bc ∧ bc ≤ 24 ∧ f 11 = g 21 ∧ f 12 = g 22
/-- the class and the reference after i calls, but for the latest refusal -/
def Rel0 (i : Nat) (C : cS) (M : mS) : Prop := ∃ (id : Nat → Nat) (R T Sh cn bc : Nat), (R ≤ i ∧ T ≤ i ∧ Sh ≤ i) ∧ Num C.fi M.fi R T Sh cn bc ∧ (∀ j, j < 5 * cn → C.cu j = M.ia 9 j) ∧ Pool C.L C.kd C.so C.nu C.fr C.ln C.ar (M.ia 1) (M.ia 2) (M.ia 6) (M.ia 7) (M.ia 8) (M.la 3) id R T Sh ∧ Spn C.sp C.L C.kd C.so (M.ia 4) (M.ia 5) id ∧ Bin C.br (C.fi 5) (M.fi 14) (M.fi 15) C.bf (M.la 10) C.L C.kd C.so C.fr C.ln (M.ia 7) (M.ia 8) id Sh bc
def Ref (C : cS) (M : mS) : Prop := C.fi 7 = M.fi 18 ∧ C.fi 8 = M.fi 19 ∧ C.fi 9 = M.fi 20
def Rel (i : Nat) (C : cS) (M : mS) : Prop := Rel0 i C M ∧ Ref C M
theorem rel0_up {i i' : Nat} {C : cS} {M : mS} (hi : i ≤ i') (h : Rel0 i C M) : Rel0 i' C M := by
  obtain ⟨id, R, T, Sh, cn, bc, ⟨h1, h2, h3⟩, h⟩ := h
  exact ⟨id, R, T, Sh, cn, bc, ⟨Nat.le_trans h1 hi, Nat.le_trans h2 hi, Nat.le_trans h3 hi⟩, h⟩
/-- what isn't looked at may change -/
theorem rel0_of {i : Nat} {C C' : cS} {M M' : mS} (h : Rel0 i C M) (hc : C'.sp = C.sp ∧ C'.cu = C.cu ∧ C'.bf = C.bf ∧ C'.br = C.br ∧ C'.L = C.L ∧ C'.kd = C.kd ∧ C'.so = C.so ∧ C'.nu = C.nu ∧ C'.fr = C.fr ∧ C'.ln = C.ln ∧ C'.ar = C.ar)
    (hf : C'.fi 10 = C.fi 10 ∧ C'.fi 13 = C.fi 13 ∧ C'.fi 2 = C.fi 2 ∧ C'.fi 6 = C.fi 6 ∧ C'.fi 11 = C.fi 11 ∧ C'.fi 12 = C.fi 12 ∧ C'.fi 5 = C.fi 5)
    (hm : M'.ia 1 = M.ia 1 ∧ M'.ia 2 = M.ia 2 ∧ M'.ia 4 = M.ia 4 ∧ M'.ia 5 = M.ia 5 ∧ M'.ia 6 = M.ia 6 ∧ M'.ia 7 = M.ia 7 ∧ M'.ia 8 = M.ia 8 ∧ M'.ia 9 = M.ia 9 ∧ M'.la 3 = M.la 3 ∧ M'.la 10 = M.la 10)
    (hg : M'.fi 3 = M.fi 3 ∧ M'.fi 7 = M.fi 7 ∧ M'.fi 10 = M.fi 10 ∧ M'.fi 12 = M.fi 12 ∧ M'.fi 16 = M.fi 16 ∧ M'.fi 21 = M.fi 21 ∧ M'.fi 22 = M.fi 22 ∧ M'.fi 14 = M.fi 14 ∧ M'.fi 15 = M.fi 15) : Rel0 i C' M' := by
  obtain ⟨c1, c2, c3, c4, c5, c6, c7, c8, c9, c10, c11⟩ := hc
  obtain ⟨f1, f2, f3, f4, f5, f6, f7⟩ := hf
  obtain ⟨m1, m2, m3, m4, m5, m6, m7, m8, m9, m10⟩ := hm
  obtain ⟨g1, g2, g3, g4, g5, g6, g7, g8, g9⟩ := hg
  unfold Rel0 Num
  rw [c1, c2, c3, c4, c5, c6, c7, c8, c9, c10, c11, f1, f2, f3, f4, f5, f6, f7, m1, m2, m3, m4, m5, m6, m7, m8, m9, m10, g1, g2, g3, g4, g5, g6, g7, g8, g9]
  exact h
theorem rel_tell {i : Nat} {C : cS} {M M' : mS} {r w a : Int32} (h : Rel0 i C M)
    (hm : M'.ia = M.ia ∧ M'.la = M.la) (hg : M'.fi 3 = M.fi 3 ∧ M'.fi 7 = M.fi 7 ∧ M'.fi 10 = M.fi 10 ∧ M'.fi 12 = M.fi 12 ∧ M'.fi 16 = M.fi 16 ∧ M'.fi 21 = M.fi 21 ∧ M'.fi 22 = M.fi 22 ∧ M'.fi 14 = M.fi 14 ∧ M'.fi 15 = M.fi 15)
    (h18 : M'.fi 18 = r) (h19 : M'.fi 19 = w) (h20 : M'.fi 20 = a) : Rel i (((C.si 7 r).si 8 w).si 9 a) M' := by
  refine ⟨rel0_of h ⟨rfl, rfl, rfl, rfl, rfl, rfl, rfl, rfl, rfl, rfl, rfl⟩ ⟨rfl, rfl, rfl, rfl, rfl, rfl, rfl⟩ ?_ hg, h18.symm, h19.symm, h20.symm⟩
  rw [hm.1, hm.2]
  exact ⟨rfl, rfl, rfl, rfl, rfl, rfl, rfl, rfl, rfl, rfl⟩
end RelDefs
