/-! Int64 by its number -/
theorem ln_tb (n : Nat) : (lN n).toBitVec = BitVec.ofNat 64 n := rfl
theorem ln_ext {a b : Int64} (h : a.toBitVec = b.toBitVec) : a = b := Int64.toBitVec_inj.mp h
theorem ln_of (x : Int64) : ∃ n, n < 18446744073709551616 ∧ x = lN n := ⟨x.toBitVec.toNat, x.toBitVec.isLt, ln_ext (by rw [ln_tb]; simp)⟩
theorem ln_xor (a b : Nat) : lN a ^^^ lN b = lN (a ^^^ b) := by
  apply ln_ext; rw [Int64.toBitVec_xor, ln_tb, ln_tb, ln_tb]; apply BitVec.eq_of_getLsbD_eq; intro i hi; simp [BitVec.getLsbD_ofNat, hi]
theorem ln_and (a b : Nat) : lN a &&& lN b = lN (a &&& b) := by
  apply ln_ext; rw [Int64.toBitVec_and, ln_tb, ln_tb, ln_tb]; apply BitVec.eq_of_getLsbD_eq; intro i hi; simp [BitVec.getLsbD_ofNat, hi]
theorem ln_or (a b : Nat) : lN a ||| lN b = lN (a ||| b) := by
  apply ln_ext; rw [Int64.toBitVec_or, ln_tb, ln_tb, ln_tb]; apply BitVec.eq_of_getLsbD_eq; intro i hi; simp [BitVec.getLsbD_ofNat, hi]
theorem ln_tn {n : Nat} (h : n < 18446744073709551616) : (lN n).toBitVec.toNat = n := by rw [ln_tb, BitVec.toNat_ofNat, Nat.mod_eq_of_lt h]
theorem ln_inj {a b : Nat} (ha : a < 18446744073709551616) (hb : b < 18446744073709551616) (h : lN a = lN b) : a = b := by
  have h1 := congrArg (fun z : Int64 => z.toBitVec.toNat) h
  change (lN a).toBitVec.toNat = (lN b).toBitVec.toNat at h1
  rwa [ln_tn ha, ln_tn hb] at h1
theorem ln_mod (n : Nat) : lN n = lN (n % 18446744073709551616) := ln_ext (by rw [ln_tb, ln_tb]; apply BitVec.eq_of_toNat_eq; simp)
theorem ln_wrap (q r : Nat) : lN (18446744073709551616 * q + r) = lN r := by
  rw [ln_mod (18446744073709551616 * q + r), ln_mod r, Nat.mul_add_mod]
theorem ln_c : ∀ k, k < 64 → ((nI k).toInt64 &&& 63) = lN k := by decide +kernel
theorem ln_cu : ∀ k, k < 64 → ((nI k).toInt64.toUInt64 &&& Int64.toUInt64 63) = UInt64.ofNat k := by decide +kernel
theorem ln_sm : ∀ k, k < 64 → (BitVec.ofNat 64 k).smod 64 = BitVec.ofNat 64 k := by decide +kernel
theorem ln_ushr {n k : Nat} (hn : n < 18446744073709551616) (hk : k < 64) : ((lN n).toUInt64 >>> ((nI k).toInt64.toUInt64 &&& Int64.toUInt64 63)).toInt64 = lN (n / 2 ^ k) := by
  rw [ln_cu k hk]
  apply ln_ext
  apply BitVec.eq_of_toNat_eq
  show ((lN n).toUInt64 >>> UInt64.ofNat k).toNat = (BitVec.ofNat 64 _).toNat
  have h1 : (UInt64.ofNat k).toNat = k := by
    show (BitVec.ofNat 64 k).toNat = k
    rw [BitVec.toNat_ofNat, Nat.mod_eq_of_lt (by omega)]
  have h2 : (lN n).toUInt64.toNat = n := ln_tn hn
  rw [UInt64.toNat_shiftRight, h1, h2, Nat.mod_eq_of_lt hk, Nat.shiftRight_eq_div_pow, BitVec.toNat_ofNat, Nat.mod_eq_of_lt (Nat.lt_of_le_of_lt (Nat.div_le_self _ _) hn)]
theorem ln_shl (n : Nat) {k : Nat} (hk : k < 64) : lN n <<< ((nI k).toInt64 &&& 63) = lN (n * 2 ^ k) := by
  rw [ln_c k hk]
  apply ln_ext
  rw [Int64.toBitVec_shiftLeft, ln_tb, ln_tb, ln_tb, ln_sm k hk]
  apply BitVec.eq_of_toNat_eq
  rw [BitVec.shiftLeft_eq', BitVec.toNat_shiftLeft, BitVec.toNat_ofNat, BitVec.toNat_ofNat, BitVec.toNat_ofNat, Nat.mod_eq_of_lt (show k < 2 ^ 64 by omega), Nat.shiftLeft_eq, Nat.mul_mod, Nat.mod_mod, ← Nat.mul_mod]
/-- an int made a long: its low half is the int's number -/
theorem ln_sx {a : Nat} (ha : a < 4294967296) : ∃ q, (nI a).toInt64 = lN (4294967296 * q + a) := by
  rcases Nat.lt_or_ge a 2147483648 with h | h
  · exact ⟨0, by rw [nI_l h]; simp⟩
  · refine ⟨4294967295, ?_⟩
    apply Int64.toInt_inj.mp
    rw [Int32.toInt_toInt64]
    show (BitVec.ofNat 32 a).toInt = (BitVec.ofNat 64 (4294967296 * 4294967295 + a)).toInt
    rw [BitVec.toInt_eq_toNat_cond, BitVec.toInt_eq_toNat_cond, BitVec.toNat_ofNat, BitVec.toNat_ofNat, Nat.mod_eq_of_lt (by omega), Nat.mod_eq_of_lt (by omega), if_neg (by omega), if_neg (by omega)]
    omega
theorem ln_sx32 {a : Nat} (ha : a < 4294967296) : (nI a).toInt64 &&& lN 4294967295 = lN a := by
  obtain ⟨q, h⟩ := ln_sx ha
  rw [h, ln_and, show (4294967295 : Nat) = 2 ^ 32 - 1 from rfl, Nat.and_two_pow_sub_one_eq_mod]
  congr 1; omega
theorem ln_sx8 {a : Nat} (ha : a < 4294967296) : (nI a).toInt64 &&& lN 255 = lN (a % 256) := by
  obtain ⟨q, h⟩ := ln_sx ha
  rw [h, ln_and, show (255 : Nat) = 2 ^ 8 - 1 from rfl, Nat.and_two_pow_sub_one_eq_mod]
  congr 1; omega
theorem ln_sxl {a : Nat} (ha : a < 4294967296) : (nI a).toInt64 <<< ((nI 32).toInt64 &&& 63) = lN (a * 4294967296) := by
  obtain ⟨q, h⟩ := ln_sx ha
  rw [h, ln_shl _ (by omega), show (4294967296 * q + a) * 2 ^ 32 = 18446744073709551616 * q + a * 4294967296 by omega, ln_wrap]
theorem ln_hi {n : Nat} (hn : n < 18446744073709551616) : (((lN n).toUInt64 >>> ((nI 32).toInt64.toUInt64 &&& Int64.toUInt64 63)).toInt64).toInt32 = nI (n / 4294967296) := by
  rw [ln_ushr hn (by omega), lN_i]
theorem ln_lo (n : Nat) : (lN n).toInt32 = nI (n % 4294967296) := by rw [lN_i, ni_mod]
/-- a byte of a long, as the reference lays it -/
theorem ln_lay {n k : Nat} (hn : n < 18446744073709551616) (hk : k ≤ 56) : (lN n >>> ((nI k).toInt64 &&& 63)).toInt32 &&& nI 255 = nI (n / 2 ^ k % 256) := by
  rw [ln_c k (by omega)]
  apply Int32.toBitVec_inj.mp
  rw [Int32.toBitVec_and]
  have e1 : ((lN n >>> lN k).toInt32).toBitVec = ((BitVec.ofNat 64 n).sshiftRight k).signExtend 32 := by
    show (lN n >>> lN k).toBitVec.signExtend 32 = _
    rw [Int64.toBitVec_shiftRight, ln_tb, ln_tb, ln_sm k (by omega)]
    show ((BitVec.ofNat 64 n).sshiftRight (BitVec.ofNat 64 k).toNat).signExtend 32 = _
    rw [BitVec.toNat_ofNat, Nat.mod_eq_of_lt (by omega)]
  rw [e1]
  apply BitVec.eq_of_getLsbD_eq
  intro i hi
  rw [BitVec.getLsbD_and, BitVec.getLsbD_signExtend, BitVec.getLsbD_sshiftRight]
  show (_ && (BitVec.ofNat 32 255).getLsbD i) = (BitVec.ofNat 32 (n / 2 ^ k % 256)).getLsbD i
  rw [BitVec.getLsbD_ofNat, BitVec.getLsbD_ofNat, BitVec.getLsbD_ofNat, show (255 : Nat) = 2 ^ 8 - 1 from rfl, show (256 : Nat) = 2 ^ 8 from rfl, Nat.testBit_two_pow_sub_one, Nat.testBit_mod_two_pow, Nat.testBit_div_two_pow]
  rcases Nat.lt_or_ge i 8 with h | h
  · rw [if_pos (show i < 64 by omega), if_pos (show k + i < 64 by omega), decide_eq_true hi, decide_eq_true h, decide_eq_true (show k + i < 64 by omega), decide_eq_false (show ¬ 64 ≤ i by omega)]
    simp [Nat.add_comm]
  · simp [Nat.not_lt.mpr h]
/-! eight bytes -/
def ae_hf (S : Nat → Nat) (i : Nat) : Nat := 4294967296 * ae_h4 (S i) (S (i + 1)) (S (i + 2)) (S (i + 3)) + ae_h4 (S (i + 4)) (S (i + 5)) (S (i + 6)) (S (i + 7))
def ae_l (S : Nat → Nat) (i : Nat) : Int64 := lN (ae_hf S i)
def ae_B (S : Nat → Nat) : Prop := ∀ k, S k < 256
theorem ae_hf_lt {S : Nat → Nat} (h : ae_B S) (i : Nat) : ae_hf S i < 18446744073709551616 := by
  have h1 := ae_h4_lt (h i) (h (i + 1)) (h (i + 2)) (h (i + 3))
  have h2 := ae_h4_lt (h (i + 4)) (h (i + 5)) (h (i + 6)) (h (i + 7))
  unfold ae_hf; omega
theorem ae_l_hi {S : Nat → Nat} (h : ae_B S) (i : Nat) : (((ae_l S i).toUInt64 >>> ((nI 32).toInt64.toUInt64 &&& Int64.toUInt64 63)).toInt64).toInt32 = ae_wf S i := by
  have h2 := ae_h4_lt (h (i + 4)) (h (i + 5)) (h (i + 6)) (h (i + 7))
  unfold ae_l
  rw [ln_hi (ae_hf_lt h i)]
  show nI _ = nI _
  congr 1; unfold ae_hf; omega
theorem ae_l_lo {S : Nat → Nat} (h : ae_B S) (i : Nat) : (ae_l S i).toInt32 = ae_wf S (i + 4) := by
  have h2 := ae_h4_lt (h (i + 4)) (h (i + 5)) (h (i + 6)) (h (i + 7))
  unfold ae_l
  rw [ln_lo]
  show nI _ = nI (ae_h4 (S (i + 4)) (S (i + 5)) (S (i + 6)) (S (i + 7)))
  congr 1; unfold ae_hf; omega
theorem ae_l_join {S : Nat → Nat} (h : ae_B S) (i : Nat) : ((ae_wf S i).toInt64 <<< ((nI 32).toInt64 &&& 63)) ||| ((ae_wf S (i + 4)).toInt64 &&& lN 4294967295) = ae_l S i := by
  have h1 := ae_h4_lt (h i) (h (i + 1)) (h (i + 2)) (h (i + 3))
  have h2 := ae_h4_lt (h (i + 4)) (h (i + 5)) (h (i + 6)) (h (i + 7))
  unfold ae_wf ae_w ae_l
  rw [ln_sxl h1, ln_sx32 h2, ln_or, show (4294967296 : Nat) = 2 ^ 32 from rfl, ae_orp 32 h2]
  rfl
theorem ae_hf_x {S T : Nat → Nat} (hS : ae_B S) (hT : ae_B T) (i j : Nat) : ae_hf S i ^^^ ae_hf T j = ae_hf (fun k => S (i + k) ^^^ T (j + k)) 0 := by
  have h2 := ae_h4_lt (hS (i + 4)) (hS (i + 5)) (hS (i + 6)) (hS (i + 7))
  have h3 := ae_h4_lt (hT (j + 4)) (hT (j + 5)) (hT (j + 6)) (hT (j + 7))
  unfold ae_hf
  rw [show (4294967296 : Nat) = 2 ^ 32 from rfl, ae_xp 32 h2 h3, ae_x4 (hS _) (hS _) (hS _) (hT _) (hT _) (hT _), ae_x4 (hS _) (hS _) (hS _) (hT _) (hT _) (hT _)]
  rfl
/-- the bytes of a long, the highest first -/
def ae_by (n k : Nat) : Nat := n / 2 ^ (56 - 8 * k) % 256
theorem ae_by_lt (n k : Nat) : ae_by n k < 256 := Nat.mod_lt _ (by decide)
theorem ae_hf_by {n : Nat} (hn : n < 18446744073709551616) : ae_hf (ae_by n) 0 = n := by
  unfold ae_hf ae_by ae_h4
  show 4294967296 * (256 * (256 * (256 * (n / 2 ^ 56 % 256) + n / 2 ^ 48 % 256) + n / 2 ^ 40 % 256) + n / 2 ^ 32 % 256) + (256 * (256 * (256 * (n / 2 ^ 24 % 256) + n / 2 ^ 16 % 256) + n / 2 ^ 8 % 256) + n / 2 ^ 0 % 256) = n
  omega
theorem ae_hf_c {S T : Nat → Nat} {i j : Nat} (h : ∀ k, k < 8 → S (i + k) = T (j + k)) : ae_hf S i = ae_hf T j := by
  unfold ae_hf
  have h0 := h 0 (by omega)
  rw [Nat.add_zero, Nat.add_zero] at h0
  rw [h0, h 1 (by omega), h 2 (by omega), h 3 (by omega), h 4 (by omega), h 5 (by omega), h 6 (by omega), h 7 (by omega)]
