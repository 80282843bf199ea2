section LawLoop
def R_law : String := "CuttingTableLaw"
def lw_P (b : Addr) (xs : List Int32) (args : Array Value) (s : State) : Prop := args = #[.ref b] ∧ s.IntsAt b xs ∧ xs.length ≤ 3072 ∧ (Jvm.Cond.and given_1 narrow_1).before args s = true
def lw_Q (_ : Array Value) (s : State) (o : Outcome) (t : State) : Prop := o = .returned (some (.int 1)) ∧ Framed s o t [] 601024 7293034
def lw_Z (below : List Frame) (a : Array Value) (s : State) : State → Prop := fun t => ∃ o, t.status = .running ∧ Ended t below o ∧ lw_Q a s o t
/-- the law's own end, with 1 on the stack, nothing written that was there before, its room as the claim has it -/
theorem lw_ret {p : Program} {l : Launch} {e : Env} {s : State} {m : MethodId} {below : List Frame} {meth : Method} {c : Code} {b : Nat} (hx : p.tables.exec = Jvm.exec) (hb : c.code = code) (hr : meth.sig.returnType = ret) (hlocks : meth.locks = false) {pc : Nat} {H : Heap} {ls : Array Slot} (hdg : decode code pc = .ok (.ireturn, 1)) : W p l e room_1 s m #[Value.ref b] below meth c H [] 601024 7293034 (lw_Z below #[Value.ref b] s) (F0 m pc ls [.int 1]) := by
  intro T hT X
  obtain ⟨fs, hret, hrun, hended, hW, hframe⟩ := X.leave (v := some (.int 1)) (hlocks := hlocks) (fun h => by rw [hr] at h; cases h)
  have hmeth' : T.vm.method? m = some meth := X.method'
  refine ⟨T.setFrames fs, ?_, .returned (some (.int 1)), hrun, hended, rfl, ⟨_, rfl⟩, hW, hframe⟩
  jvm_step X.here [X.here.top, hx, hb, hdg, hmeth', hr, ret, narrow_b1]
  (try refine ⟨rfl, ?_⟩); (try refine ⟨rfl, ?_⟩)
  first | (intro acts; rw [hret _ acts rfl rfl rfl]) | rw [hret _ _ rfl rfl rfl]
  exact Steps.refl _
/-- what holds at the law's entry: the machine, the code, the tables' words (any of lw_tbl by 'hts w (by decide +kernel)'), the script of L ints xs at the cell b, what the Statement gives of the start (any of its parts by flat_of_before) -/
def lw_At (p : Program) (s : State) (m : MethodId) (meth : Method) (c : Code) (b L : Nat) (xs : Nat → Int32) : Prop :=
  p.tables.exec = Jvm.exec ∧ c.code = code ∧ meth.sig.returnType = ret ∧ c.maxLocals = 8 ∧ s.vm.findClass R_law = some m.cls ∧ (∀ w ∈ lw_tbl, w.before #[Value.ref b] s = true) ∧ va_X b L xs s s.heap ∧ b < s.heap.size ∧ meth.locks = false ∧ (Jvm.Cond.and given_1 narrow_1).before #[Value.ref b] s = true
theorem ll_sub {L : Nat} (hL : L ≤ 3072) : (Int32.ofNat L - 6).toInt = (L : Int) - 6 := by
  have h1 : (Int32.ofNat L).toInt = (L : Int) := nI_toInt (n := L) (by omega)
  have h2 : (6 : Int32).toInt = 6 := by decide
  rw [Int32.toInt_sub, h1, h2]
  refine Int.bmod_eq_of_le (by omega) (by omega)
theorem ll_gt {L t : Nat} (hL : L ≤ 3072) (h : L < 6 * t + 6) (h2 : 6 * t ≤ L) : (Int32.ofNat L - 6) < nI (6 * t) := by
  rw [i_lt, ll_sub hL, nI_toInt (by omega)]
  omega
theorem ll_le {L t : Nat} (hL : L ≤ 3072) (h : 6 * t + 6 ≤ L) : ¬ (Int32.ofNat L - 6) < nI (6 * t) := by
  rw [i_lt, ll_sub hL, nI_toInt (by omega)]
  omega
theorem ll_rel {t : Nat} {C : cS} {M : mS} (h : Rel t C M) : Rel (t + 1) C M := ⟨rel0_up (Nat.le_succ t) h.1, h.2⟩
set_option maxHeartbeats 1000000 in
set_option maxRecDepth 100000 in
theorem law_loop {p : Program} {l : Launch} {e : Env} {s : State} {m : MethodId} {below : List Frame} {meth : Method} {c : Code} {D : va_G} {cI cJ cO : ClassId} {h hm : Nat → Nat} {sa sb o b L : Nat} {xs : Nat → Int32} (h0 : l.stackTraces = false) (hT : aT sa sb (lA s) s s.heap) (hC : va_Nc exX exS s) (F : CallFix p m c cL_law 8 s #[Value.ref b] wsL_law RL) (hX : va_X b L xs s s.heap) (hbl : b < s.heap.size) (hL3 : L ≤ 3072) (hr : meth.sig.returnType = ret) (hlk : meth.locks = false) :
    ∀ (n t : Nat) (g : Nat → Int64) (M : mS) (C : cS) (H : Heap) (locs : List Loc) (ls : Array Slot), 6 * (t + n) ≤ L → L < 6 * (t + n) + 6 → CI D cI cJ cO h (lA s) s s.heap H locs (mW cI cJ hm M ++ oW cJ o g) C → Rel t C M → lv_has ls 8 (lL b h hm o t) →
      W p l e room_1 s m #[Value.ref b] below meth c H locs (17 + 2 * t) (15172 + 27 * t) (lw_Z below #[Value.ref b] s) (F0 m 23 ls []) := by
  obtain ⟨hx, hb, hml, hown, hts⟩ := id F
  have hA : ¬ lA s b := Nat.not_le_of_lt hbl
  intro n
  induction n with
  | zero =>
    intro t g M C H locs ls h1 h2 I hR hl
    refine lv_iload hx hb dL_law_23 (lv_at hl 4 rfl) ?_
    refine lv_aload_n hx hb dL_law_25 rfl (lv_at hl 0 rfl) ?_
    refine va_slen hx hb hX hbl hA I.2.2.2.1 dL_law_26 ?_
    refine lv_bipush (v := (6 : Int32)) hx hb dL_law_27 (by decide) ?_
    refine lv_isub hx hb dL_law_29 ?_
    refine lv_icmp_gt (tgt := 987) hx hb dL_law_30 (by decide) (fun _ => ?_) (fun q => absurd (ll_gt hL3 (by omega) (by omega)) q)
    refine lv_iconst (v := (1 : Int32)) hx hb dL_law_987 (by decide) ?_
    refine va_forget (fun q hq => I.2.2.2.1.2.2 q hq) ?_
    refine W.widen (k := 601024) (n := 7293034) (by omega) (by omega) ?_
    exact lw_ret hx hb hr hlk dL_law_988
  | succ n ih =>
    intro t g M C H locs ls h1 h2 I hR hl
    have ht : t < 512 := by omega
    refine lv_iload hx hb dL_law_23 (lv_at hl 4 rfl) ?_
    refine lv_aload_n hx hb dL_law_25 rfl (lv_at hl 0 rfl) ?_
    refine va_slen hx hb hX hbl hA I.2.2.2.1 dL_law_26 ?_
    refine lv_bipush (v := (6 : Int32)) hx hb dL_law_27 (by decide) ?_
    refine lv_isub hx hb dL_law_29 ?_
    refine lv_icmp_gt (tgt := 987) hx hb dL_law_30 (by decide) (fun q => absurd q (ll_le hL3 (by omega))) (fun _ => ?_)
    have FC : LC p s m #[Value.ref b] c b L xs t := ⟨F, hX, hbl, by omega, hL3⟩
    have hc : 17 + 2 * t + 2 ≤ room_1.cells := by show 17 + 2 * t + 2 ≤ 601024; omega
    have hs : 15172 + 27 * t + 27 ≤ room_1.slots := by show 15172 + 27 * t + 27 ≤ 7293034; omega
    have kk : LK p l e s m #[Value.ref b] below meth c (17 + 2 * t) (15172 + 27 * t) (lw_Z below #[Value.ref b] s) D cI cJ cO h hm o b t := by
      intro g M C H locs ls I hR hl
      refine lv_iinc (v := nI (6 * (t + 1))) (lv' := [(4, .int (nI (6 * (t + 1)))), (0, .ref b), (1, .ref (h 0)), (2, .ref (hm 0)), (3, .ref o)]) hx hb dL_law_981 hl (k := 4) rfl (nI_add (6 * t) 6) (by decide) rfl (fun ls hl => ?_)
      refine lv_goto (tgt := 23) hx hb dL_law_984 (by decide) ?_
      have z := ih (t + 1) g M C H locs ls (by omega) (by omega) I hR (lv_sub hl [1, 2, 3, 4, 0] rfl)
      have e1 : 17 + 2 * (t + 1) = 17 + 2 * t + 2 := by omega
      have e2 : 15172 + 27 * (t + 1) = 15172 + 27 * t + 27 := by omega
      rw [e1, e2] at z
      exact z
    refine lv_aload_n hx hb dL_law_33 rfl (lv_at hl 0 rfl) ?_
    refine lv_iload hx hb dL_law_34 (lv_at hl 4 rfl) ?_
    refine va_sld hx hb hX hbl hA I.2.2.2.1 (vp_in_nI (n := 6 * t) (by omega) (by omega)) dL_law_36 ?_
    rw [ck (by omega)]
    refine lv_bipush (v := (31 : Int32)) hx hb dL_law_37 (by decide) ?_
    refine lv_iand hx hb dL_law_39 ?_
    generalize xs (6 * t) &&& (31 : Int32) = z
    by_cases c0 : z = (0 : Int32)
    · refine lv_tableIn (off := 92) (tgt := 132) hx hb dL_law_40 (by rw [c0]; decide) (by rw [c0]; decide) (by rw [c0]; decide) (by decide) ?_
      exact lc_thread FC ht hR I hl hc hs kk
    by_cases c1 : z = (1 : Int32)
    · refine lv_tableIn (off := 141) (tgt := 181) hx hb dL_law_40 (by rw [c1]; decide) (by rw [c1]; decide) (by rw [c1]; decide) (by decide) ?_
      exact lc_tag FC ht hR I hl hc hs kk
    by_cases c2 : z = (2 : Int32)
    · refine lv_tableIn (off := 178) (tgt := 218) hx hb dL_law_40 (by rw [c2]; decide) (by rw [c2]; decide) (by rw [c2]; decide) (by decide) ?_
      exact lc_share FC ht hR I hl hc hs kk
    by_cases c3 : z = (3 : Int32)
    · refine lv_tableIn (off := 215) (tgt := 255) hx hb dL_law_40 (by rw [c3]; decide) (by rw [c3]; decide) (by rw [c3]; decide) (by decide) ?_
      exact lc_copy FC ht hR I hl hc hs kk
    by_cases c4 : z = (4 : Int32)
    · refine lv_tableIn (off := 252) (tgt := 292) hx hb dL_law_40 (by rw [c4]; decide) (by rw [c4]; decide) (by rw [c4]; decide) (by decide) ?_
      exact lc_clear FC ht hR I hl hc hs kk
    by_cases c5 : z = (5 : Int32)
    · refine lv_tableIn (off := 277) (tgt := 317) hx hb dL_law_40 (by rw [c5]; decide) (by rw [c5]; decide) (by rw [c5]; decide) (by decide) ?_
      exact lc_put FC ht hR I hl hc hs kk
    by_cases c6 : z = (6 : Int32)
    · refine lv_tableIn (off := 358) (tgt := 398) hx hb dL_law_40 (by rw [c6]; decide) (by rw [c6]; decide) (by rw [c6]; decide) (by decide) ?_
      exact lc_shoot FC ht hR I hl hc hs kk
    by_cases c7 : z = (7 : Int32)
    · refine lv_tableIn (off := 419) (tgt := 459) hx hb dL_law_40 (by rw [c7]; decide) (by rw [c7]; decide) (by rw [c7]; decide) (by decide) ?_
      exact lc_splice FC ht hR I hl hc hs kk
    by_cases c8 : z = (8 : Int32)
    · refine lv_tableIn (off := 492) (tgt := 532) hx hb dL_law_40 (by rw [c8]; decide) (by rw [c8]; decide) (by rw [c8]; decide) (by decide) ?_
      exact lc_open FC ht hR I hl hc hs kk
    by_cases c9 : z = (9 : Int32)
    · refine lv_tableIn (off := 541) (tgt := 581) hx hb dL_law_40 (by rw [c9]; decide) (by rw [c9]; decide) (by rw [c9]; decide) (by decide) ?_
      exact lc_close FC ht hR I hl hc hs kk
    by_cases c10 : z = (10 : Int32)
    · refine lv_tableIn (off := 590) (tgt := 630) hx hb dL_law_40 (by rw [c10]; decide) (by rw [c10]; decide) (by rw [c10]; decide) (by decide) ?_
      exact lc_loop FC ht hR I hl hc hs kk
    by_cases c11 : z = (11 : Int32)
    · refine lv_tableIn (off := 651) (tgt := 691) hx hb dL_law_40 (by rw [c11]; decide) (by rw [c11]; decide) (by rw [c11]; decide) (by decide) ?_
      exact lc_note FC ht hR I hl hc hs kk
    by_cases c12 : z = (12 : Int32)
    · refine lv_tableIn (off := 724) (tgt := 764) hx hb dL_law_40 (by rw [c12]; decide) (by rw [c12]; decide) (by rw [c12]; decide) (by decide) ?_
      exact lc_play FC ht hR I hl hc hs kk
    by_cases c13 : z = (13 : Int32)
    · refine lv_tableIn (off := 737) (tgt := 777) hx hb dL_law_40 (by rw [c13]; decide) (by rw [c13]; decide) (by rw [c13]; decide) (by decide) ?_
      exact lc_takeBack FC ht hR I hl hc hs kk
    by_cases c14 : z = (14 : Int32)
    · refine lv_tableIn (off := 750) (tgt := 790) hx hb dL_law_40 (by rw [c14]; decide) (by rw [c14]; decide) (by rw [c14]; decide) (by decide) ?_
      exact lc_refusal FC ht hR I hl hc hs kk
    by_cases c15 : z = (15 : Int32)
    · refine lv_tableIn (off := 775) (tgt := 815) hx hb dL_law_40 (by rw [c15]; decide) (by rw [c15]; decide) (by rw [c15]; decide) (by decide) ?_
      exact lc_look FC ht hR I hl hc hs kk
    by_cases c16 : z = (16 : Int32)
    · refine lv_tableIn (off := 812) (tgt := 852) hx hb dL_law_40 (by rw [c16]; decide) (by rw [c16]; decide) (by rw [c16]; decide) (by decide) ?_
      exact lc_at h0 hT hC FC ht hR I hl hc hs kk
    by_cases c17 : z = (17 : Int32)
    · refine lv_tableIn (off := 879) (tgt := 919) hx hb dL_law_40 (by rw [c17]; decide) (by rw [c17]; decide) (by rw [c17]; decide) (by decide) ?_
      exact lc_alike FC ht hR I hl hc hs kk
    by_cases c18 : z = (18 : Int32)
    · refine lv_tableIn (off := 916) (tgt := 956) hx hb dL_law_40 (by rw [c18]; decide) (by rw [c18]; decide) (by rw [c18]; decide) (by decide) ?_
      exact lc_count FC ht hR I hl hc hs kk
    refine lv_tableOut (tgt := 981) hx hb dL_law_40 (by have n0 := lv_neT c0 (k := (0 : Int32)) (a := 0) rfl; have n1 := lv_neT c1 (k := (1 : Int32)) (a := 1) rfl; have n2 := lv_neT c2 (k := (2 : Int32)) (a := 2) rfl; have n3 := lv_neT c3 (k := (3 : Int32)) (a := 3) rfl; have n4 := lv_neT c4 (k := (4 : Int32)) (a := 4) rfl; have n5 := lv_neT c5 (k := (5 : Int32)) (a := 5) rfl; have n6 := lv_neT c6 (k := (6 : Int32)) (a := 6) rfl; have n7 := lv_neT c7 (k := (7 : Int32)) (a := 7) rfl; have n8 := lv_neT c8 (k := (8 : Int32)) (a := 8) rfl; have n9 := lv_neT c9 (k := (9 : Int32)) (a := 9) rfl; have n10 := lv_neT c10 (k := (10 : Int32)) (a := 10) rfl; have n11 := lv_neT c11 (k := (11 : Int32)) (a := 11) rfl; have n12 := lv_neT c12 (k := (12 : Int32)) (a := 12) rfl; have n13 := lv_neT c13 (k := (13 : Int32)) (a := 13) rfl; have n14 := lv_neT c14 (k := (14 : Int32)) (a := 14) rfl; have n15 := lv_neT c15 (k := (15 : Int32)) (a := 15) rfl; have n16 := lv_neT c16 (k := (16 : Int32)) (a := 16) rfl; have n17 := lv_neT c17 (k := (17 : Int32)) (a := 17) rfl; have n18 := lv_neT c18 (k := (18 : Int32)) (a := 18) rfl; omega) (by decide) ?_
    refine W.widen (k := 17 + 2 * t + 2) (n := 15172 + 27 * t + 27) (by omega) (by omega) ?_
    exact kk g M C H locs ls I (ll_rel hR) hl
end LawLoop
