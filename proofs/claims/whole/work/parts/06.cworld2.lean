section CWorld2
variable {p : Program} {l : Launch} {e : Env} {R : Room} {s : State} {m : MethodId} {args : Array Value} {below : List Frame} {meth : Method} {c : Code} {H H0 : Heap} {locs : List Loc} {cells slots : Nat} {Q : State → Prop} {cc : ByteArray} {nL pc : Nat} {ls : Array Slot} {rest st0 : List Value} {Ts : List Cond} {D : va_G} {cI cJ cO : ClassId} {h : Nat → Nat} {A : Nat → Prop} {C : cS} {own : String}
theorem c_fresh (I : cG D cI cJ cO h A s H0 H locs C) {q : Nat} {e : va_E} (hD : va_D A (cW cI cJ cO h C ++ [(q, e)])) : q ∉ C.L := by
  intro hq
  obtain ⟨k, hk⟩ := va_pl_get (X := cX cI cJ cO h C) (f := pF cJ C) hq
  have hk : (cW cI cJ cO h C)[k]? = some (q, pF cJ C q) := hk
  have hl := (List.getElem?_eq_some_iff.mp hk).1
  have h1 : (cW cI cJ cO h C ++ [(q, e)])[k]? = some (q, pF cJ C q) := by rw [List.getElem?_append_left hl]; exact hk
  have h2 : (cW cI cJ cO h C ++ [(q, e)])[(cW cI cJ cO h C).length]? = some (q, e) := by simp
  have := hD.1 _ _ _ _ h1 h2 rfl
  have hl' : k < (cW cI cJ cO h C).length := hl
  omega
theorem c_pushL {q : Nat} (hq : q ∉ C.L) : cW cI cJ cO h C ++ [(q, .inr (0, [.int 0, .int 0, .null]))] = cW cI cJ cO h (C.nl q) := by
  show (cX cI cJ cO h C ++ va_pl C.L (pF cJ C)) ++ _ = cX cI cJ cO h (C.nl q) ++ va_pl (C.L ++ [q]) (pF cJ (C.nl q))
  rw [List.append_assoc, va_pl_push hq]
  have e : va_up (pF cJ C) q (.inr (0, [.int 0, .int 0, .null])) = pF cJ (C.nl q) := by
    funext b
    show _ = (if va_up C.kd q 0 b = 0 then .inr (0, [.int (va_up C.so q 0 b), .int (va_up C.nu q 0 b), va_rf (va_up C.fr q none b)]) else .inl (cJ, C.ln b, .inr (.inl (C.ar b))) : va_E)
    by_cases hb : b = q
    · subst hb
      simp only [va_up_self]
      rfl
    · simp only [va_up_ne _ _ hb]
      rfl
  rw [e]
  rfl
theorem c_pushA {q n : Nat} {f : Nat → Int64} (hq : q ∉ C.L) : cW cI cJ cO h C ++ [(q, .inl (cJ, n, .inr (.inl f)))] = cW cI cJ cO h (C.na q n f) := by
  show (cX cI cJ cO h C ++ va_pl C.L (pF cJ C)) ++ _ = cX cI cJ cO h (C.na q n f) ++ va_pl (C.L ++ [q]) (pF cJ (C.na q n f))
  rw [List.append_assoc, va_pl_push hq]
  have e : va_up (pF cJ C) q (.inl (cJ, n, .inr (.inl f))) = pF cJ (C.na q n f) := by
    funext b
    show _ = (if va_up C.kd q 1 b = 0 then .inr (0, [.int (C.so b), .int (C.nu b), va_rf (C.fr b)]) else .inl (cJ, va_up C.ln q n b, .inr (.inl (va_up C.ar q f b))) : va_E)
    by_cases hb : b = q
    · subst hb
      simp only [va_up_self]
      rfl
    · simp only [va_up_ne _ _ hb]
      rfl
  rw [e]
  rfl
theorem c_new (F : CallFix p m c cc nL s args Ts RX1) (hin : ∀ w ∈ u_ws RX0 TX0 3, w ∈ Ts) (I : cG D cI cJ cO h A s H0 H locs C) {index : Nat} (hcl : (Cond.classLink RX1 index RX0).before args s = true) (hinst : (Cond.instantiable RX0 3).before args s = true) (hini : (Cond.initialized RX0).before args s = true) (hcells : cells + 1 ≤ R.cells) (hslots : slots + 3 ≤ R.slots) (hdg : decode cc pc = .ok (.new index, 3))
    (kk : ∀ (q : Nat) (H1 : Heap), q ∉ C.L → cG D cI cJ cO h A s H0 H1 locs (C.nl q) → W p l e R s m args below meth c H1 locs (cells + 1) (slots + 3) Q (F0 m (pc + 3) ls (.ref q :: rest))) : W p l e R s m args below meth c H locs cells slots Q (F0 m pc ls rest) := by
  refine va_new (ci := 0) (fs := [.int 0, .int 0, .null]) (C := RX0) (T := TX0) (N := 3) (ws := cW cI cJ cO h C) F.1 F.2.1 F.2.2.2.2 hin tyX0 tyX0_ok F.2.2.2.1 hcl hinst hini I.1 I.2.1 I.2.2.1 I.2.2.2.1 I.2.2.2.2.1 rfl (fun j hj => by rcases (show j = 0 ∨ j = 1 ∨ j = 2 by omega) with rfl | rfl | rfl <;> rfl) hcells hslots hdg (fun q H1 hP hD hS => ?_)
  have hq := c_fresh I hD
  rw [c_pushL hq] at hP hD
  exact kk q H1 hq ⟨I.1, hP, hD, hS, I.2.2.2.2⟩
theorem c_newa (F : CallFix p m c cc nL s args Ts own) (I : cG D cI cJ cO h A s H0 H locs C) (harr : (Cond.arrayClass (newarray.typeOf .long)).before args s = true) {n : Int32} (hn : ¬ n < 0) (hb : n.toNatClampNeg ≤ 1000) (hcells : cells + 1 ≤ R.cells) (hslots : slots + n.toNatClampNeg ≤ R.slots) (hdg : decode cc pc = .ok (.newarray .long, 2))
    (kk : ∀ (q : Nat) (H1 : Heap), q ∉ C.L → cG D cI cJ cO h A s H0 H1 locs (C.na q n.toNatClampNeg (fun _ => 0)) → W p l e R s m args below meth c H1 locs (cells + 1) (slots + n.toNatClampNeg) Q (F0 m (pc + 2) ls (.ref q :: rest))) : W p l e R s m args below meth c H locs cells slots Q (F0 m pc ls (.int n :: rest)) := by
  refine va_newa (a0 := (n.toNatClampNeg, .inr (.inl (fun _ => 0)))) (ty := .long) (ws := cW cI cJ cO h C) F.1 F.2.1 harr rfl I.1 I.2.1 I.2.2.1 I.2.2.2.1 I.2.2.2.2.1 (fun cA => rfl) hn rfl (by show _ * 8 ≤ _; omega) hcells hslots hdg (fun q cA H1 hK hP hD hS => ?_)
  have h1 : s.vm.findClass ("[" ++ (FieldType.long).toString) = some cA := (hK.2 3 (cA, .long) rfl).2
  have h2 : s.vm.findClass ("[" ++ (FieldType.long).toString) = some cJ := (I.1.2 1 (cJ, .long) rfl).2
  cases h1.symm.trans h2
  have hq := c_fresh I hD
  rw [c_pushA hq] at hP hD
  exact kk q H1 hq ⟨I.1, hP, hD, hS, I.2.2.2.2⟩
theorem c_nmJ (I : cG D cI cJ cO h A s H0 H locs C) : s.vm.findClass "[J" = some cJ := (I.1.2 1 (cJ, .long) rfl).2
theorem c_clone (F : CallFix p m c cc nL s args Ts RX1) (hl : ls.size = nL) (I : cG D cI cJ cO h A s H0 H locs C) {index : Nat}
    (hlink : (Cond.methodLink RX1 index ⟨"[J", "clone", "()Ljava/lang/Object;"⟩).before args s = true) (hsame : (Cond.sameMethod "[J" "java/lang/Object" "clone" "()Ljava/lang/Object;").before args s = true)
    (hnat : (Cond.native ⟨"java/lang/Object", "clone", "()Ljava/lang/Object;"⟩).before args s = true) (hinst : (Cond.instanceMethod ⟨"java/lang/Object", "clone", "()Ljava/lang/Object;"⟩).before args s = true)
    (hsel : (Cond.selects "[J" ⟨"[J", "clone", "()Ljava/lang/Object;"⟩ ⟨"java/lang/Object", "clone", "()Ljava/lang/Object;"⟩).before args s = true) {a : Nat} (ha : C.aw a)
    (hframes : 1 ≤ R.frames) (hlocals : (rest.map fun v => v.category).sum + 14 ≤ R.locals) (hcells : cells + 1 ≤ R.cells) (hslots : slots + C.ln a ≤ R.slots) (hdg : decode cc pc = .ok (.invokevirtual index, 3))
    (kk : ∀ (q : Nat) (H1 : Heap), q ∉ C.L → cG D cI cJ cO h A s H0 H1 locs (C.na q (C.ln a) (C.ar a)) → W p l e R s m args below meth c H1 locs (cells + 1) (slots + C.ln a) Q (F0 m (pc + 3) ls (.ref q :: rest))) : W p l e R s m args below meth c H locs cells slots Q (F0 m pc ls (.ref a :: rest)) := by
  obtain ⟨q0, -, hq0⟩ := c_awk (cI := cI) (cJ := cJ) (cO := cO) (h := h) ha
  refine va_clone (ad := "[J") (ty := .long) (ws := cW cI cJ cO h C) F.1 F.2.1 (F.2.2.1.trans hl.symm) F.2.2.2.1 hlink hsame hnat hinst hsel I.2.2.2.2.2 I.1 I.2.1 I.2.2.1 I.2.2.2.1 I.2.2.2.2.1 q0 1 hq0 rfl (c_nmJ I) (fun i v hv => ?_) hframes hlocals hcells hslots hdg (fun q H1 hK hP hD hS => ?_)
  · have hi : i < (C.ln a) := by
      have := (Array.getElem?_eq_some_iff.mp hv).1
      have e : (vp_cell cJ (C.ln a, .inr (.inl (C.ar a)))).slots.size = C.ln a := arrV_size _ _ _
      omega
    have e : (vp_cell cJ (C.ln a, .inr (.inl (C.ar a)))).slots[i]? = some (.long (C.ar a i)) := arrV_read _ _ hi
    rw [e] at hv
    cases hv
    rfl
  · have hq := c_fresh I hD
    rw [c_pushA hq] at hP hD
    exact kk q H1 hq ⟨I.1, hP, hD, hS, I.2.2.2.2⟩
theorem c_castA (F : CallFix p m c cc nL s args Ts RX1) (I : cG D cI cJ cO h A s H0 H locs C) {a : Nat} (ha : C.aw a) {index : Nat} (hlink : (Cond.classLink RX1 index "[J").before args s = true) (hdg : decode cc pc = .ok (.checkcast index, 3))
    (kk : W p l e R s m args below meth c H locs cells slots Q (F0 m (pc + 3) ls (.ref a :: rest))) : W p l e R s m args below meth c H locs cells slots Q (F0 m pc ls (.ref a :: rest)) := by
  obtain ⟨q0, -, hq0⟩ := c_awk (cI := cI) (cJ := cJ) (cO := cO) (h := h) ha
  exact va_castA (ws := cW cI cJ cO h C) F.1 F.2.1 F.2.2.2.1 hlink I.2.1 q0 hq0 (c_nmJ I) hdg kk
section Copies
variable {index : Nat} {sp dp n : Int32}
theorem c_cpyc (F : CallFix p m c cc nL s args Ts own) (hl : ls.size = nL) (I : cG D cI cJ cO h A s H0 H locs C) (hlink : (Cond.methodLink own index arraycopyName).before args s = true) (hnat : (Cond.native arraycopyName).before args s = true) (hstat : (Cond.static arraycopyName).before args s = true) (hini : (Cond.initialized "java/lang/System").before args s = true)
    (h1 : ¬ sp < 0) (h2 : ¬ dp < 0) (h3 : ¬ n < 0) (h4 : sp.toNatClampNeg + n.toNatClampNeg ≤ 80) (h5 : dp.toNatClampNeg + n.toNatClampNeg ≤ 80) (hframes : 1 ≤ R.frames) (hlocals : (rest.map fun v => v.category).sum + 18 ≤ R.locals) (hdg : decode cc pc = .ok (.invokestatic index, 3))
    (kk : ∀ (H1 : Heap) (locs1 : List Loc), cG D cI cJ cO h A s H0 H1 locs1 (C.ccu sp.toNatClampNeg dp.toNatClampNeg n.toNatClampNeg) → W p l e R s m args below meth c H1 locs1 cells slots Q (F0 m (pc + 3) ls rest)) : W p l e R s m args below meth c H locs cells slots Q (F0 m pc ls (.int n :: .int dp :: .ref (h 2) :: .int sp :: .ref (h 2) :: rest)) :=
  va_copyi (ws := cW cI cJ cO h C) (ty := .int) F.1 F.2.1 (F.2.2.1.trans hl.symm) F.2.2.2.1 hlink hnat hstat hini I.1 I.2.1 I.2.2.1 I.2.2.2.1 2 2 0 0 rfl rfl rfl rfl rfl h1 h2 h3 h4 h5 (fun _ _ => rfl) hframes hlocals hdg (fun H1 locs1 hP hD hS => kk H1 locs1 ⟨I.1, hP, hD, hS, I.2.2.2.2⟩)
theorem c_cpyf (F : CallFix p m c cc nL s args Ts own) (hl : ls.size = nL) (I : cG D cI cJ cO h A s H0 H locs C) (hlink : (Cond.methodLink own index arraycopyName).before args s = true) (hnat : (Cond.native arraycopyName).before args s = true) (hstat : (Cond.static arraycopyName).before args s = true) (hini : (Cond.initialized "java/lang/System").before args s = true)
    {a : Nat} (ha : C.aw a) (h1 : ¬ sp < 0) (h2 : ¬ dp < 0) (h3 : ¬ n < 0) (h4 : sp.toNatClampNeg + n.toNatClampNeg ≤ C.ln a) (h5 : dp.toNatClampNeg + n.toNatClampNeg ≤ 24) (hframes : 1 ≤ R.frames) (hlocals : (rest.map fun v => v.category).sum + 18 ≤ R.locals) (hdg : decode cc pc = .ok (.invokestatic index, 3))
    (kk : ∀ (H1 : Heap) (locs1 : List Loc), cG D cI cJ cO h A s H0 H1 locs1 (C.cpb a sp.toNatClampNeg dp.toNatClampNeg n.toNatClampNeg) → W p l e R s m args below meth c H1 locs1 cells slots Q (F0 m (pc + 3) ls rest)) : W p l e R s m args below meth c H locs cells slots Q (F0 m pc ls (.int n :: .int dp :: .ref (h 3) :: .int sp :: .ref a :: rest)) := by
  obtain ⟨q0, -, hq0⟩ := c_awk (cI := cI) (cJ := cJ) (cO := cO) (h := h) ha
  exact va_copyl (ws := cW cI cJ cO h C) (ty := .long) F.1 F.2.1 (F.2.2.1.trans hl.symm) F.2.2.2.1 hlink hnat hstat hini I.1 I.2.1 I.2.2.1 I.2.2.2.1 q0 3 1 1 hq0 rfl rfl rfl rfl h1 h2 h3 h4 h5 (fun _ _ => rfl) hframes hlocals hdg (fun H1 locs1 hP hD hS => kk H1 locs1 ⟨I.1, hP, hD, hS, I.2.2.2.2⟩)
theorem c_cpyb (F : CallFix p m c cc nL s args Ts own) (hl : ls.size = nL) (I : cG D cI cJ cO h A s H0 H locs C) (hlink : (Cond.methodLink own index arraycopyName).before args s = true) (hnat : (Cond.native arraycopyName).before args s = true) (hstat : (Cond.static arraycopyName).before args s = true) (hini : (Cond.initialized "java/lang/System").before args s = true)
    {b : Nat} (ha : C.aw b) (h1 : ¬ sp < 0) (h2 : ¬ dp < 0) (h3 : ¬ n < 0) (h4 : sp.toNatClampNeg + n.toNatClampNeg ≤ 24) (h5 : dp.toNatClampNeg + n.toNatClampNeg ≤ C.ln b) (hframes : 1 ≤ R.frames) (hlocals : (rest.map fun v => v.category).sum + 18 ≤ R.locals) (hdg : decode cc pc = .ok (.invokestatic index, 3))
    (kk : ∀ (H1 : Heap) (locs1 : List Loc), cG D cI cJ cO h A s H0 H1 locs1 (C.cbp b sp.toNatClampNeg dp.toNatClampNeg n.toNatClampNeg) → W p l e R s m args below meth c H1 locs1 cells slots Q (F0 m (pc + 3) ls rest)) : W p l e R s m args below meth c H locs cells slots Q (F0 m pc ls (.int n :: .int dp :: .ref b :: .int sp :: .ref (h 3) :: rest)) := by
  obtain ⟨q0, hp0, hq0⟩ := c_awk (cI := cI) (cJ := cJ) (cO := cO) (h := h) ha
  refine va_copyl (ws := cW cI cJ cO h C) (ty := .long) F.1 F.2.1 (F.2.2.1.trans hl.symm) F.2.2.2.1 hlink hnat hstat hini I.1 I.2.1 I.2.2.1 I.2.2.2.1 3 q0 1 1 rfl hq0 rfl rfl rfl h1 h2 h3 h4 h5 (fun _ _ => rfl) hframes hlocals hdg (fun H1 locs1 hP hD hS => kk H1 locs1 ⟨I.1, ?_, ?_, hS, I.2.2.2.2⟩)
  · rw [c_aws ha I.2.2.1 hp0] at hP; exact hP
  · rw [c_aws ha I.2.2.1 hp0] at hD; exact hD
theorem c_cpyp (F : CallFix p m c cc nL s args Ts own) (hl : ls.size = nL) (I : cG D cI cJ cO h A s H0 H locs C) (hlink : (Cond.methodLink own index arraycopyName).before args s = true) (hnat : (Cond.native arraycopyName).before args s = true) (hstat : (Cond.static arraycopyName).before args s = true) (hini : (Cond.initialized "java/lang/System").before args s = true)
    {a b : Nat} (ha : C.aw a) (hb : C.aw b) (h1 : ¬ sp < 0) (h2 : ¬ dp < 0) (h3 : ¬ n < 0) (h4 : sp.toNatClampNeg + n.toNatClampNeg ≤ C.ln a) (h5 : dp.toNatClampNeg + n.toNatClampNeg ≤ C.ln b) (hframes : 1 ≤ R.frames) (hlocals : (rest.map fun v => v.category).sum + 18 ≤ R.locals) (hdg : decode cc pc = .ok (.invokestatic index, 3))
    (kk : ∀ (H1 : Heap) (locs1 : List Loc), cG D cI cJ cO h A s H0 H1 locs1 (C.cpp a b sp.toNatClampNeg dp.toNatClampNeg n.toNatClampNeg) → W p l e R s m args below meth c H1 locs1 cells slots Q (F0 m (pc + 3) ls rest)) : W p l e R s m args below meth c H locs cells slots Q (F0 m pc ls (.int n :: .int dp :: .ref b :: .int sp :: .ref a :: rest)) := by
  obtain ⟨q0, -, hq0⟩ := c_awk (cI := cI) (cJ := cJ) (cO := cO) (h := h) ha
  obtain ⟨q1, hp1, hq1⟩ := c_awk (cI := cI) (cJ := cJ) (cO := cO) (h := h) hb
  refine va_copyl (ws := cW cI cJ cO h C) (ty := .long) F.1 F.2.1 (F.2.2.1.trans hl.symm) F.2.2.2.1 hlink hnat hstat hini I.1 I.2.1 I.2.2.1 I.2.2.2.1 q0 q1 1 1 hq0 hq1 rfl rfl rfl h1 h2 h3 h4 h5 (fun _ _ => rfl) hframes hlocals hdg (fun H1 locs1 hP hD hS => kk H1 locs1 ⟨I.1, ?_, ?_, hS, I.2.2.2.2⟩)
  · rw [c_aws hb I.2.2.1 hp1] at hP; exact hP
  · rw [c_aws hb I.2.2.1 hp1] at hD; exact hD
end Copies
/-- a Load's own fields, laid by its constructor -/
theorem c_lset {a k : Nat} {fs : List Value} {C' : cS} (ha : C.ld a) (hD : va_D A (cW cI cJ cO h C)) (hk : (cW cI cJ cO h C)[k]? = some (a, pF cJ C a)) (hX : cX cI cJ cO h C' = cX cI cJ cO h C) (hL : C'.L = C.L) (hF : va_up (pF cJ C) a (.inr (0, fs)) = pF cJ C') : (cW cI cJ cO h C).set k (a, .inr (0, fs)) = cW cI cJ cO h C' := by
  refine (va_pl_set (X := cX cI cJ cO h C) (L := C.L) (f := pF cJ C) hD ha.1 hk).trans ?_
  rw [hF]
  show _ = cX cI cJ cO h C' ++ va_pl C'.L (pF cJ C')
  rw [hX, hL]
theorem c_lput0 {a : Nat} {v : Int32} (ha : C.ld a) : va_up (pF cJ C) a (.inr (0, [.int v, .int (C.nu a), va_rf (C.fr a)])) = pF cJ (C.slo a v) := by
  funext b
  show _ = (if C.kd b = 0 then .inr (0, [.int (va_up C.so a v b), .int (C.nu b), va_rf (C.fr b)]) else .inl (cJ, C.ln b, .inr (.inl (C.ar b))) : va_E)
  by_cases hb : b = a
  · subst hb; simp only [va_up_self]; rw [if_pos ha.2]
  · simp only [va_up_ne _ _ hb]; rfl
theorem c_lput1 {a : Nat} {v : Int32} (ha : C.ld a) : va_up (pF cJ C) a (.inr (0, [.int (C.so a), .int v, va_rf (C.fr a)])) = pF cJ (C.sln a v) := by
  funext b
  show _ = (if C.kd b = 0 then .inr (0, [.int (C.so b), .int (va_up C.nu a v b), va_rf (C.fr b)]) else .inl (cJ, C.ln b, .inr (.inl (C.ar b))) : va_E)
  by_cases hb : b = a
  · subst hb; simp only [va_up_self]; rw [if_pos ha.2]
  · simp only [va_up_ne _ _ hb]; rfl
theorem c_lput2 {a : Nat} {r : Option Nat} (ha : C.ld a) : va_up (pF cJ C) a (.inr (0, [.int (C.so a), .int (C.nu a), va_rf r])) = pF cJ (C.slf a r) := by
  funext b
  show _ = (if C.kd b = 0 then .inr (0, [.int (C.so b), .int (C.nu b), va_rf (va_up C.fr a r b)]) else .inl (cJ, C.ln b, .inr (.inl (C.ar b))) : va_E)
  by_cases hb : b = a
  · subst hb; simp only [va_up_self]; rw [if_pos ha.2]
  · simp only [va_up_ne _ _ hb]; rfl
theorem c_lput (F : CallFix p m c cc nL s args Ts RX0) (hin : ∀ w ∈ u_ws RX0 TX0 3, w ∈ Ts) (hini : meth.name = "<init>") (I : cG D cI cJ cO h A s H0 H locs C) {a : Nat} (ha : C.ld a) (k : Nat) (hk : k < 3) {v : Value} {fs : List Value} {C' : cS} (hfs : ([.int (C.so a), .int (C.nu a), va_rf (C.fr a)] : List Value).set k v = fs) (hX : cX cI cJ cO h C' = cX cI cJ cO h C) (hL : C'.L = C.L) (hF : va_up (pF cJ C) a (.inr (0, fs)) = pF cJ C') (hn : narrow (tyX0 k) v = v) (hfit : fits (tyX0 k) v = true) (hfin : (TX0 k).2.2.2 = true) (hdc : (TX0 k).1 = RX0) {index : Nat} (hlink : (Cond.fieldLink RX0 index (TX0 k).1 (TX0 k).2.1 (TX0 k).2.2.1).before args s = true) (hdg : decode cc pc = .ok (.putfield index, 3))
    (kk : ∀ (H1 : Heap) (locs1 : List Loc), cG D cI cJ cO h A s H0 H1 locs1 C' → W p l e R s m args below meth c H1 locs1 cells slots Q (F0 m (pc + 3) ls rest)) : W p l e R s m args below meth c H locs cells slots Q (F0 m pc ls (v :: .ref a :: rest)) := by
  obtain ⟨q0, hp, hq⟩ := c_ldk (cI := cI) (cJ := cJ) (cO := cO) (h := h) ha
  refine va_putF (D := D) (cl := vwCl) (ci := 0) (C := RX0) (T := TX0) (N := 3) (ws := cW cI cJ cO h C) F.1 F.2.1 F.2.2.2.2 hin tyX0 tyX0_ok nmX0 F.2.2.2.1 I.1 I.2.1 I.2.2.1 I.2.2.2.1 q0 hq rfl k hk hlink (fun _ q => q) hfin hini hdc (tyX0_ok k hk) hn hfit (by show k < 3; exact hk) hdg (fun H1 locs1 hP hD hS => kk H1 locs1 ⟨I.1, ?_, ?_, hS, I.2.2.2.2⟩)
  · rw [hfs, c_lset ha I.2.2.1 hp hX hL hF] at hP; exact hP
  · rw [hfs, c_lset ha I.2.2.1 hp hX hL hF] at hD; exact hD
theorem c_aw_na (C : cS) (q n : Nat) (f : Nat → Int64) : (C.na q n f).aw q := ⟨List.mem_append_right _ List.mem_cons_self, va_up_self _ _ _⟩
end CWorld2
