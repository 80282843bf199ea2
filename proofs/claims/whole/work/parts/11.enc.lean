section Bits64
/-! ===== lN n to 2^64: shifts, and, or, masks, one bit ===== -/
theorem wb_tb (n : Nat) : (lN n).toBitVec = BitVec.ofNat 64 n := rfl
theorem wb_inj {a b : Int64} (h : a.toBitVec = b.toBitVec) : a = b := Int64.toBitVec_inj.mp h
theorem wb_tn {n : Nat} (h : n < 2 ^ 64) : (lN n).toBitVec.toNat = n := by rw [wb_tb, BitVec.toNat_ofNat, Nat.mod_eq_of_lt h]
theorem wb_of (x : Int64) : ∃ n, n < 2 ^ 64 ∧ x = lN n := ⟨x.toBitVec.toNat, x.toBitVec.isLt, wb_inj (by rw [wb_tb]; simp)⟩
theorem wb_of32 (x : Int32) : ∃ n, n < 2 ^ 32 ∧ x = nI n := ⟨x.toBitVec.toNat, x.toBitVec.isLt, Int32.toBitVec_inj.mp (by show _ = BitVec.ofNat 32 _; simp)⟩
theorem wb_c : ∀ k, k < 64 → ((nI k).toInt64 &&& 63) = lN k := by decide +kernel
theorem wb_cu : ∀ k, k < 64 → ((nI k).toInt64.toUInt64 &&& Int64.toUInt64 63) = UInt64.ofNat k := by decide +kernel
theorem wb_sm : ∀ k, k < 64 → (BitVec.ofNat 64 k).smod 64 = BitVec.ofNat 64 k := by decide +kernel
theorem wb_pw {a b : Nat} (h : a ≤ b) : 2 ^ b = 2 ^ a * 2 ^ (b - a) := by rw [← Nat.pow_add]; congr 1; omega
theorem wb_lt2 {a b : Nat} (h : a < b) : 2 ^ a < 2 ^ b := Nat.pow_lt_pow_right (by decide) h
theorem wb_mod (n : Nat) : lN n = lN (n % 2 ^ 64) := wb_inj (by rw [wb_tb, wb_tb]; apply BitVec.eq_of_toNat_eq; rw [BitVec.toNat_ofNat, BitVec.toNat_ofNat, Nat.mod_mod])
theorem wb_shr {n k : Nat} (hn : n < 2 ^ 64) (hk : k < 64) : ((lN n).toUInt64 >>> ((nI k).toInt64.toUInt64 &&& Int64.toUInt64 63)).toInt64 = lN (n / 2 ^ k) := by
  rw [wb_cu k hk]
  apply wb_inj
  apply BitVec.eq_of_toNat_eq
  show ((lN n).toUInt64 >>> UInt64.ofNat k).toNat = (BitVec.ofNat 64 _).toNat
  have h1 : (UInt64.ofNat k).toNat = k := by
    show (BitVec.ofNat 64 k).toNat = k
    rw [BitVec.toNat_ofNat, Nat.mod_eq_of_lt (by omega)]
  have h2 : (lN n).toUInt64.toNat = n := wb_tn hn
  rw [UInt64.toNat_shiftRight, h1, h2, Nat.mod_eq_of_lt hk, Nat.shiftRight_eq_div_pow, BitVec.toNat_ofNat, Nat.mod_eq_of_lt (Nat.lt_of_le_of_lt (Nat.div_le_self _ _) hn)]
theorem wb_shl (n : Nat) {k : Nat} (hk : k < 64) : lN n <<< ((nI k).toInt64 &&& 63) = lN (n * 2 ^ k) := by
  rw [wb_c k hk]
  apply wb_inj
  rw [Int64.toBitVec_shiftLeft, wb_tb, wb_tb, wb_tb, wb_sm k hk]
  apply BitVec.eq_of_toNat_eq
  rw [BitVec.shiftLeft_eq', BitVec.toNat_shiftLeft, BitVec.toNat_ofNat, BitVec.toNat_ofNat, BitVec.toNat_ofNat, Nat.mod_eq_of_lt (show k < 2 ^ 64 by omega), Nat.shiftLeft_eq, Nat.mul_mod, Nat.mod_mod, ← Nat.mul_mod]
theorem wb_and {a b : Nat} (ha : a < 2 ^ 64) (hb : b < 2 ^ 64) : lN a &&& lN b = lN (a &&& b) := by
  apply wb_inj
  rw [Int64.toBitVec_and, wb_tb, wb_tb, wb_tb]
  apply BitVec.eq_of_toNat_eq
  rw [BitVec.toNat_and, BitVec.toNat_ofNat, BitVec.toNat_ofNat, BitVec.toNat_ofNat, Nat.mod_eq_of_lt ha, Nat.mod_eq_of_lt hb, Nat.mod_eq_of_lt (Nat.and_lt_two_pow _ hb)]
theorem wb_or {a b : Nat} (ha : a < 2 ^ 64) (hb : b < 2 ^ 64) : lN a ||| lN b = lN (a ||| b) := by
  apply wb_inj
  rw [Int64.toBitVec_or, wb_tb, wb_tb, wb_tb]
  apply BitVec.eq_of_toNat_eq
  rw [BitVec.toNat_or, BitVec.toNat_ofNat, BitVec.toNat_ofNat, BitVec.toNat_ofNat, Nat.mod_eq_of_lt ha, Nat.mod_eq_of_lt hb, Nat.mod_eq_of_lt (Nat.or_lt_two_pow ha hb)]
theorem wb_mask {n k : Nat} (hn : n < 2 ^ 64) (hk : k < 64) : lN n &&& lN (2 ^ k - 1) = lN (n % 2 ^ k) := by
  rw [wb_and hn (by have := wb_lt2 hk; omega), Nat.and_two_pow_sub_one_eq_mod]
theorem u_tn {n : Nat} (h : n < 2 ^ 64) : (UInt64.ofNat n).toNat = n := Nat.mod_eq_of_lt h
theorem g_or {k p a b : Nat} (hp : 2 ^ k = p) (ha : a < p) (h : b * p + a < 2 ^ 64) : lN (b * p) ||| lN a = lN (b * p + a) := by
  subst hp
  have h1 : b * 2 ^ k ||| a = b * 2 ^ k + a := by rw [← Nat.shiftLeft_eq, Nat.shiftLeft_add_eq_or_of_lt ha]
  have h3 : UInt64.ofNat (b * 2 ^ k) ||| UInt64.ofNat a = UInt64.ofNat (b * 2 ^ k + a) := UInt64.toNat_inj.mp (by rw [UInt64.toNat_or, u_tn (by omega), u_tn (by omega), u_tn h, h1])
  have h2 := congrArg UInt64.toInt64 h3
  exact h2
end Bits64
section Enc
theorem e_mask (nb : Int32) : nb.toInt64 &&& (4294967295 : Int64) = lN nb.toBitVec.toNat := by
  apply wb_inj
  rw [Int64.toBitVec_and, wb_tb]
  apply BitVec.eq_of_getLsbD_eq
  intro i hi
  have h1 : (nb.toInt64).toBitVec = nb.toBitVec.signExtend 64 := rfl
  have h2 : (4294967295 : Int64).toBitVec = BitVec.ofNat 64 (2 ^ 32 - 1) := by decide
  rw [h1, h2, BitVec.getLsbD_and, BitVec.getLsbD_signExtend, BitVec.getLsbD_ofNat, BitVec.getLsbD_ofNat, Nat.testBit_two_pow_sub_one]
  by_cases h : i < 32
  · simp [h, hi, BitVec.getLsbD]
  · have : nb.toBitVec.toNat.testBit i = false := Nat.testBit_lt_two_pow (Nat.lt_of_lt_of_le nb.toBitVec.isLt (Nat.pow_le_pow_right (by decide) (by omega)))
    simp [h, hi, this]
theorem e_nat {k d : Nat} (hk : k < 1000) (hd : d < 3) (nb : Int32) : enc k (nI d) nb = lN ((k + 1) * 17179869184 + d * 4294967296 + nb.toBitVec.toNat) := by
  have hw := nb.toBitVec.isLt
  have e1 : (nI (k + 1)).toInt64 <<< (((34 : Int32)).toInt64 &&& 63) = lN ((k + 1) * 17179869184) := by
    rw [nI_l (by omega)]
    exact wb_shl (k + 1) (k := 34) (by decide)
  have e2 : (nI d).toInt64 <<< (((32 : Int32)).toInt64 &&& 63) = lN (d * 4294967296) := by
    rw [nI_l (by omega)]
    exact wb_shl d (k := 32) (by decide)
  unfold enc
  rw [e1, e2, e_mask, g_or (k := 34) (by decide) (by omega) (by omega)]
  have e3 : (k + 1) * 17179869184 + d * 4294967296 = ((k + 1) * 4 + d) * 4294967296 := by omega
  rw [e3, g_or (k := 32) (by decide) hw (by omega)]
theorem e_ne {k d : Nat} (hk : k < 1000) (hd : d < 3) (nb : Int32) : ¬ enc k (nI d) nb = 0 := by
  have hw := nb.toBitVec.isLt
  rw [e_nat hk hd]
  intro h
  have := (pk_lEQ (b := 0) (by omega) (by omega)).mp h
  omega
theorem e_inj {k d k' d' : Nat} (hk : k < 1000) (hd : d < 3) (hk' : k' < 1000) (hd' : d' < 3) {nb nb' : Int32} (h : enc k (nI d) nb = enc k' (nI d') nb') : k = k' := by
  have hw := nb.toBitVec.isLt
  have hw' := nb'.toBitVec.isLt
  rw [e_nat hk hd, e_nat hk' hd'] at h
  have := (pk_lEQ (by omega) (by omega)).mp h
  omega
theorem e_kof {k d : Nat} (hk : k < 1000) (hd : d < 3) (nb : Int32) : kof (enc k (nI d) nb) = nI d := by
  have hw := nb.toBitVec.isLt
  unfold kof
  rw [e_nat hk hd]
  have e1 := wb_shr (n := (k + 1) * 17179869184 + d * 4294967296 + nb.toBitVec.toNat) (k := 32) (by omega) (by decide)
  have e2 : (((lN ((k + 1) * 17179869184 + d * 4294967296 + nb.toBitVec.toNat)).toUInt64 >>> (((32 : Int32)).toInt64.toUInt64 &&& Int64.toUInt64 63)).toInt64) = lN ((k + 1) * 4 + d) := by
    refine e1.trans ?_
    congr 1
    omega
  rw [e2, lN_i, pk_andN (by omega) 2 (by decide)]
  congr 1
  omega
theorem e_num {k d : Nat} (hk : k < 1000) (hd : d < 3) (nb : Int32) : (enc k (nI d) nb).toInt32 = nb := by
  have hw := nb.toBitVec.isLt
  rw [e_nat hk hd, lN_i]
  apply Int32.toBitVec_inj.mp
  show BitVec.ofNat 32 _ = _
  apply BitVec.eq_of_toNat_eq
  rw [BitVec.toNat_ofNat]
  omega
theorem e_char (x : Int64) : (((x.toInt32).toUInt32 % 65536).toInt32).toInt64 = x &&& (65535 : Int64) := by
  obtain ⟨n, hn, rfl⟩ := wb_of x
  have e1 : lN n &&& (65535 : Int64) = lN (n % 65536) := wb_mask (k := 16) hn (by decide)
  rw [e1, pk_char, lN_i, nI_l (by omega)]
  congr 1
  show (BitVec.ofNat 32 n).toNat % 65536 = _
  rw [BitVec.toNat_ofNat]
  omega
end Enc
