/-! bytes: sums in base 256, products in GF(2^8), the box: the one mathematical value of both sides -/
def ae_sbT : List Nat := [99, 124, 119, 123, 242, 107, 111, 197, 48, 1, 103, 43, 254, 215, 171, 118, 202, 130, 201, 125, 250, 89, 71, 240, 173, 212, 162, 175, 156, 164, 114, 192, 183, 253, 147, 38, 54, 63, 247, 204, 52, 165, 229, 241, 113, 216, 49, 21, 4, 199, 35, 195, 24, 150, 5, 154, 7, 18, 128, 226, 235, 39, 178, 117, 9, 131, 44, 26, 27, 110, 90, 160, 82, 59, 214, 179, 41, 227, 47, 132, 83, 209, 0, 237, 32, 252, 177, 91, 106, 203, 190, 57, 74, 76, 88, 207, 208, 239, 170, 251, 67, 77, 51, 133, 69, 249, 2, 127, 80, 60, 159, 168, 81, 163, 64, 143, 146, 157, 56, 245, 188, 182, 218, 33, 16, 255, 243, 210, 205, 12, 19, 236, 95, 151, 68, 23, 196, 167, 126, 61, 100, 93, 25, 115, 96, 129, 79, 220, 34, 42, 144, 136, 70, 238, 184, 20, 222, 94, 11, 219, 224, 50, 58, 10, 73, 6, 36, 92, 194, 211, 172, 98, 145, 149, 228, 121, 231, 200, 55, 109, 141, 213, 78, 169, 108, 86, 244, 234, 101, 122, 174, 8, 186, 120, 37, 46, 28, 166, 180, 198, 232, 221, 116, 31, 75, 189, 139, 138, 112, 62, 181, 102, 72, 3, 246, 14, 97, 53, 87, 185, 134, 193, 29, 158, 225, 248, 152, 17, 105, 217, 142, 148, 155, 30, 135, 233, 206, 85, 40, 223, 140, 161, 137, 13, 191, 230, 66, 104, 65, 153, 45, 15, 176, 84, 187, 22]
def ae_ibT : List Nat := [82, 9, 106, 213, 48, 54, 165, 56, 191, 64, 163, 158, 129, 243, 215, 251, 124, 227, 57, 130, 155, 47, 255, 135, 52, 142, 67, 68, 196, 222, 233, 203, 84, 123, 148, 50, 166, 194, 35, 61, 238, 76, 149, 11, 66, 250, 195, 78, 8, 46, 161, 102, 40, 217, 36, 178, 118, 91, 162, 73, 109, 139, 209, 37, 114, 248, 246, 100, 134, 104, 152, 22, 212, 164, 92, 204, 93, 101, 182, 146, 108, 112, 72, 80, 253, 237, 185, 218, 94, 21, 70, 87, 167, 141, 157, 132, 144, 216, 171, 0, 140, 188, 211, 10, 247, 228, 88, 5, 184, 179, 69, 6, 208, 44, 30, 143, 202, 63, 15, 2, 193, 175, 189, 3, 1, 19, 138, 107, 58, 145, 17, 65, 79, 103, 220, 234, 151, 242, 207, 206, 240, 180, 230, 115, 150, 172, 116, 34, 231, 173, 53, 133, 226, 249, 55, 232, 28, 117, 223, 110, 71, 241, 26, 113, 29, 41, 197, 137, 111, 183, 98, 14, 170, 24, 190, 27, 252, 86, 62, 75, 198, 210, 121, 32, 154, 219, 192, 254, 120, 205, 90, 244, 31, 221, 168, 51, 136, 7, 199, 49, 177, 18, 16, 89, 39, 128, 236, 95, 96, 81, 127, 169, 25, 181, 74, 13, 45, 229, 122, 159, 147, 201, 156, 239, 160, 224, 59, 77, 174, 42, 245, 176, 200, 235, 187, 60, 131, 83, 153, 97, 23, 43, 4, 126, 186, 119, 214, 38, 225, 105, 20, 99, 85, 33, 12, 125]
def ae_ivT : List Nat := [0, 1, 141, 246, 203, 82, 123, 209, 232, 79, 41, 192, 176, 225, 229, 199, 116, 180, 170, 75, 153, 43, 96, 95, 88, 63, 253, 204, 255, 64, 238, 178, 58, 110, 90, 241, 85, 77, 168, 201, 193, 10, 152, 21, 48, 68, 162, 194, 44, 69, 146, 108, 243, 57, 102, 66, 242, 53, 32, 111, 119, 187, 89, 25, 29, 254, 55, 103, 45, 49, 245, 105, 167, 100, 171, 19, 84, 37, 233, 9, 237, 92, 5, 202, 76, 36, 135, 191, 24, 62, 34, 240, 81, 236, 97, 23, 22, 94, 175, 211, 73, 166, 54, 67, 244, 71, 145, 223, 51, 147, 33, 59, 121, 183, 151, 133, 16, 181, 186, 60, 182, 112, 208, 6, 161, 250, 129, 130, 131, 126, 127, 128, 150, 115, 190, 86, 155, 158, 149, 217, 247, 2, 185, 164, 222, 106, 50, 109, 216, 138, 132, 114, 42, 20, 159, 136, 249, 220, 137, 154, 251, 124, 46, 195, 143, 184, 101, 72, 38, 200, 18, 74, 206, 231, 210, 98, 12, 224, 31, 239, 17, 117, 120, 113, 165, 142, 118, 61, 189, 188, 134, 87, 11, 40, 47, 163, 218, 212, 228, 15, 169, 39, 83, 4, 27, 252, 172, 230, 122, 7, 174, 99, 197, 219, 226, 234, 148, 139, 196, 213, 157, 248, 144, 107, 177, 13, 214, 235, 198, 14, 207, 173, 8, 78, 215, 227, 93, 80, 30, 179, 91, 35, 56, 52, 104, 70, 3, 140, 221, 156, 125, 160, 205, 26, 65, 28]
def ae_sb (v : Nat) : Nat := ae_sbT.getD v 0
def ae_ib (v : Nat) : Nat := ae_ibT.getD v 0
def ae_iv (v : Nat) : Nat := ae_ivT.getD v 0
/-- a byte doubled -/
def ae_tq (x : Nat) : Nat := if 127 < x then (x * 2) ^^^ 283 else x * 2
/-- the sum and the doubled number behind k steps -/
def ae_tl (a b : Nat) : Nat → Nat × Nat
  | 0 => (0, a)
  | k + 1 => (if b / 2 ^ k % 2 = 1 then (ae_tl a b k).1 ^^^ (ae_tl a b k).2 else (ae_tl a b k).1, ae_tq (ae_tl a b k).2)
def ae_tm (a b : Nat) : Nat := (ae_tl a b 8).1
/-- the same, for the kernel -/
def ae_tu (b k s x : Nat) : Nat → Nat
  | 0 => s
  | n + 1 => ae_tu b (k + 1) (if Nat.beq (Nat.land (Nat.shiftRight b k) 1) 1 then Nat.xor s x else s) (if Nat.ble 128 x then Nat.xor (Nat.mul x 2) 283 else Nat.mul x 2) n
theorem ae_tq_lt : ∀ x, x < 256 → ae_tq x < 256 := by decide +kernel
theorem ae_tl_lt {a b : Nat} (ha : a < 256) : ∀ k, (ae_tl a b k).1 < 256 ∧ (ae_tl a b k).2 < 256
  | 0 => ⟨by show 0 < 256; omega, ha⟩
  | k + 1 => by
    obtain ⟨h1, h2⟩ := ae_tl_lt (b := b) ha k
    refine ⟨?_, ae_tq_lt _ h2⟩
    show (if b / 2 ^ k % 2 = 1 then (ae_tl a b k).1 ^^^ (ae_tl a b k).2 else (ae_tl a b k).1) < 256
    split
    · exact Nat.xor_lt_two_pow (n := 8) h1 h2
    · exact h1
theorem ae_tm_lt {a : Nat} (b : Nat) (ha : a < 256) : ae_tm a b < 256 := (ae_tl_lt ha 8).1
theorem ae_sb_lt : ∀ v, v < 256 → ae_sb v < 256 := by decide +kernel
theorem ae_ib_lt : ∀ v, v < 256 → ae_ib v < 256 := by decide +kernel
theorem ae_iv_lt : ∀ v, v < 256 → ae_iv v < 256 := by decide +kernel
theorem ae_ibsb : ∀ v, v < 256 → ae_ib (ae_sb v) = v := by decide +kernel
theorem ae_sbib : ∀ v, v < 256 → ae_sb (ae_ib v) = v := by decide +kernel
theorem ae_tm1 : ∀ x, x < 256 → ae_tm x 1 = x := by decide +kernel
theorem ae_tm2 : ∀ x, x < 256 → ae_tm x 2 = ae_tq x := by decide +kernel
theorem ae_tm3 : ∀ x, x < 256 → ae_tm x 3 = ae_tq x ^^^ x := by decide +kernel
theorem ae_tm9 : ∀ x, x < 256 → ae_tm x 9 = ae_tq (ae_tq (ae_tq x)) ^^^ x := by decide +kernel
theorem ae_tm11 : ∀ x, x < 256 → ae_tm x 11 = ae_tq (ae_tq (ae_tq x)) ^^^ ae_tq x ^^^ x := by decide +kernel
theorem ae_tm13 : ∀ x, x < 256 → ae_tm x 13 = ae_tq (ae_tq (ae_tq x)) ^^^ ae_tq (ae_tq x) ^^^ x := by decide +kernel
theorem ae_tm14 : ∀ x, x < 256 → ae_tm x 14 = ae_tq (ae_tq (ae_tq x)) ^^^ ae_tq (ae_tq x) ^^^ ae_tq x := by decide +kernel
theorem ae_t7 : ∀ x, x < 256 → (127 < x ↔ x.testBit 7 = true) := by decide +kernel
theorem ae_x2 (x y : Nat) : (x ^^^ y) * 2 = (x * 2) ^^^ (y * 2) := by
  have h : ∀ z : Nat, z * 2 = z <<< 1 := fun z => by rw [Nat.shiftLeft_eq]
  rw [h, h, h, Nat.shiftLeft_xor_distrib]
theorem ae_xx (x y : Nat) : x ^^^ (x ^^^ y) = y := by rw [← Nat.xor_assoc, Nat.xor_self, Nat.zero_xor]
theorem ae_xl (x y z : Nat) : x ^^^ (y ^^^ z) = y ^^^ (x ^^^ z) := by rw [← Nat.xor_assoc, Nat.xor_comm x y, Nat.xor_assoc]
theorem ae_tqx {x y : Nat} (hx : x < 256) (hy : y < 256) : ae_tq (x ^^^ y) = ae_tq x ^^^ ae_tq y := by
  have hz : x ^^^ y < 256 := Nat.xor_lt_two_pow (n := 8) hx hy
  have h1 := ae_t7 x hx
  have h2 := ae_t7 y hy
  have h3 := ae_t7 _ hz
  rw [Nat.testBit_xor] at h3
  unfold ae_tq
  rw [ae_x2]
  by_cases a : 127 < x <;> by_cases b : 127 < y
  · have c : ¬ 127 < x ^^^ y := by rw [h3, h1.mp a, h2.mp b]; decide
    rw [if_pos a, if_pos b, if_neg c]
    rw [Nat.xor_assoc, ae_xl 283, Nat.xor_self, Nat.xor_zero]
  · have c : 127 < x ^^^ y := by rw [h3, h1.mp a]; have := mt h2.mpr b; simp at this; rw [this]; decide
    rw [if_pos a, if_neg b, if_pos c]
    rw [Nat.xor_assoc, Nat.xor_assoc, Nat.xor_comm 283]
  · have c : 127 < x ^^^ y := by rw [h3, h2.mp b]; have := mt h1.mpr a; simp at this; rw [this]; decide
    rw [if_neg a, if_pos b, if_pos c, Nat.xor_assoc]
  · have c : ¬ 127 < x ^^^ y := by
      rw [h3]; have u := mt h1.mpr a; have v := mt h2.mpr b; simp at u v; rw [u, v]; decide
    rw [if_neg a, if_neg b, if_neg c]
/-! words of four bytes -/
def ae_h4 (a b c d : Nat) : Nat := 256 * (256 * (256 * a + b) + c) + d
abbrev ae_w (a b c d : Nat) : Int32 := nI (ae_h4 a b c d)
abbrev ae_wf (S : Nat → Nat) (i : Nat) : Int32 := ae_w (S i) (S (i + 1)) (S (i + 2)) (S (i + 3))
theorem ae_xp (i : Nat) {a b c d : Nat} (hb : b < 2 ^ i) (hd : d < 2 ^ i) : (2 ^ i * a + b) ^^^ (2 ^ i * c + d) = 2 ^ i * (a ^^^ c) + (b ^^^ d) := by
  apply Nat.eq_of_testBit_eq
  intro j
  rw [Nat.testBit_xor, Nat.testBit_two_pow_mul_add a hb j, Nat.testBit_two_pow_mul_add c hd j, Nat.testBit_two_pow_mul_add _ (Nat.xor_lt_two_pow hb hd) j]
  split <;> rw [Nat.testBit_xor]
theorem ae_ap (i : Nat) {a b c d : Nat} (hb : b < 2 ^ i) (hd : d < 2 ^ i) : (2 ^ i * a + b) &&& (2 ^ i * c + d) = 2 ^ i * (a &&& c) + (b &&& d) := by
  apply Nat.eq_of_testBit_eq
  intro j
  rw [Nat.testBit_and, Nat.testBit_two_pow_mul_add a hb j, Nat.testBit_two_pow_mul_add c hd j, Nat.testBit_two_pow_mul_add _ (Nat.and_lt_two_pow _ hd) j]
  split <;> rw [Nat.testBit_and]
theorem ae_x8 {a b c d : Nat} (hb : b < 256) (hd : d < 256) : (256 * a + b) ^^^ (256 * c + d) = 256 * (a ^^^ c) + (b ^^^ d) := ae_xp 8 hb hd
theorem ae_a8 {a b c d : Nat} (hb : b < 256) (hd : d < 256) : (256 * a + b) &&& (256 * c + d) = 256 * (a &&& c) + (b &&& d) := ae_ap 8 hb hd
theorem ae_x4 {a b c d a' b' c' d' : Nat} (hb : b < 256) (hc : c < 256) (hd : d < 256) (hb' : b' < 256) (hc' : c' < 256) (hd' : d' < 256) : ae_h4 a b c d ^^^ ae_h4 a' b' c' d' = ae_h4 (a ^^^ a') (b ^^^ b') (c ^^^ c') (d ^^^ d') := by
  unfold ae_h4
  rw [ae_x8 hd hd', ae_x8 hc hc', ae_x8 hb hb']
theorem ae_a4 {a b c d a' b' c' d' : Nat} (hb : b < 256) (hc : c < 256) (hd : d < 256) (hb' : b' < 256) (hc' : c' < 256) (hd' : d' < 256) : ae_h4 a b c d &&& ae_h4 a' b' c' d' = ae_h4 (a &&& a') (b &&& b') (c &&& c') (d &&& d') := by
  unfold ae_h4
  rw [ae_a8 hd hd', ae_a8 hc hc', ae_a8 hb hb']
theorem ae_h4_lt {a b c d : Nat} (ha : a < 256) (hb : b < 256) (hc : c < 256) (hd : d < 256) : ae_h4 a b c d < 4294967296 := by unfold ae_h4; omega
/-! Int32 by its number -/
theorem ni_xor (a b : Nat) : nI a ^^^ nI b = nI (a ^^^ b) := by
  apply Int32.toBitVec_inj.mp
  rw [Int32.toBitVec_xor]
  show BitVec.ofNat 32 a ^^^ BitVec.ofNat 32 b = BitVec.ofNat 32 (a ^^^ b)
  apply BitVec.eq_of_getLsbD_eq
  intro i hi
  simp [BitVec.getLsbD_ofNat, hi]
theorem ni_and (a b : Nat) : nI a &&& nI b = nI (a &&& b) := by
  apply Int32.toBitVec_inj.mp
  rw [Int32.toBitVec_and]
  show BitVec.ofNat 32 a &&& BitVec.ofNat 32 b = BitVec.ofNat 32 (a &&& b)
  apply BitVec.eq_of_getLsbD_eq
  intro i hi
  simp [BitVec.getLsbD_ofNat, hi]
theorem ni_or (a b : Nat) : nI a ||| nI b = nI (a ||| b) := by
  apply Int32.toBitVec_inj.mp
  rw [Int32.toBitVec_or]
  show BitVec.ofNat 32 a ||| BitVec.ofNat 32 b = BitVec.ofNat 32 (a ||| b)
  apply BitVec.eq_of_getLsbD_eq
  intro i hi
  simp [BitVec.getLsbD_ofNat, hi]
theorem ni_sl : ∀ n, n < 32 → ((nI n &&& 31).toBitVec.smod 32).toNat = n := by decide +kernel
theorem ni_su : ∀ n, n < 32 → (((nI n).toUInt32 &&& Int32.toUInt32 31).toBitVec % 32).toNat = n := by decide +kernel
theorem ni_mod (a : Nat) : nI a = nI (a % 4294967296) := by
  apply Int32.toBitVec_inj.mp
  show BitVec.ofNat 32 a = BitVec.ofNat 32 (a % 4294967296)
  apply BitVec.eq_of_toNat_eq
  simp
theorem ni_wrap (q r : Nat) : nI (4294967296 * q + r) = nI r := by
  rw [ni_mod (4294967296 * q + r), ni_mod r, Nat.mul_add_mod]
theorem ni_shl (a : Nat) {k : Nat} (hk : k < 32) : nI a <<< (nI k &&& 31) = nI (a * 2 ^ k) := by
  apply Int32.toBitVec_inj.mp
  apply BitVec.eq_of_toNat_eq
  rw [pk_shl _ _ k (ni_sl k hk)]
  show (BitVec.ofNat 32 a).toNat * 2 ^ k % 2 ^ 32 = (BitVec.ofNat 32 (a * 2 ^ k)).toNat
  rw [BitVec.toNat_ofNat, BitVec.toNat_ofNat, Nat.mod_mul_mod]
theorem ni_shr {a : Nat} (ha : a < 2147483648) {k : Nat} (hk : k < 32) : nI a >>> (nI k &&& 31) = nI (a / 2 ^ k) := pk_shrN ha _ k (ni_sl k hk)
theorem ni_ushr {a : Nat} (ha : a < 4294967296) {k : Nat} (hk : k < 32) : ((nI a).toUInt32 >>> ((nI k).toUInt32 &&& Int32.toUInt32 31)).toInt32 = nI (a / 2 ^ k) := pk_ushrN ha _ k (ni_su k hk)
theorem ni_of (x : Int32) : ∃ n, n < 4294967296 ∧ x = nI n := ⟨x.toBitVec.toNat, x.toBitVec.isLt, by
  apply Int32.toBitVec_inj.mp
  show x.toBitVec = BitVec.ofNat 32 x.toBitVec.toNat
  simp⟩
theorem ni_inj {a b : Nat} (ha : a < 4294967296) (hb : b < 4294967296) (h : nI a = nI b) : a = b := by
  have h1 := congrArg (fun z : Int32 => z.toBitVec.toNat) h
  change (nI a).toBitVec.toNat = (nI b).toBitVec.toNat at h1
  rwa [pk_tn ha, pk_tn hb] at h1
/-! what the class's small methods do to a word -/
theorem ae_wx {a b c d a' b' c' d' : Nat} (hb : b < 256) (hc : c < 256) (hd : d < 256) (hb' : b' < 256) (hc' : c' < 256) (hd' : d' < 256) : ae_w a b c d ^^^ ae_w a' b' c' d' = ae_w (a ^^^ a') (b ^^^ b') (c ^^^ c') (d ^^^ d') := by
  unfold ae_w
  rw [ni_xor, ae_x4 hb hc hd hb' hc' hd']
theorem ae_orp (i : Nat) {a b : Nat} (hb : b < 2 ^ i) : (a * 2 ^ i) ||| b = 2 ^ i * a + b := by
  rw [Nat.mul_comm, ← Nat.two_pow_add_eq_or_of_lt hb]
theorem ae_turn8 {a b c d : Nat} (ha : a < 256) (hb : b < 256) (hc : c < 256) (hd : d < 256) : nI (ae_h4 a b c d * 2 ^ 8 ||| ae_h4 a b c d / 2 ^ 24) = ae_w b c d a := by
  have e : ae_h4 a b c d / 2 ^ 24 = a := by unfold ae_h4; omega
  rw [e, ae_orp 8 ha, show 2 ^ 8 * ae_h4 a b c d + a = 4294967296 * a + ae_h4 b c d a by unfold ae_h4; omega, ni_wrap]
theorem ae_turn16 {a b c d : Nat} (ha : a < 256) (hb : b < 256) (hc : c < 256) (hd : d < 256) : nI (ae_h4 a b c d * 2 ^ 16 ||| ae_h4 a b c d / 2 ^ 16) = ae_w c d a b := by
  have e : ae_h4 a b c d / 2 ^ 16 = 256 * a + b := by unfold ae_h4; omega
  rw [e, ae_orp 16 (by omega), show 2 ^ 16 * ae_h4 a b c d + (256 * a + b) = 4294967296 * (256 * a + b) + ae_h4 c d a b by unfold ae_h4; omega, ni_wrap]
theorem ae_turn24 {a b c d : Nat} (ha : a < 256) (hb : b < 256) (hc : c < 256) (hd : d < 256) : nI (ae_h4 a b c d * 2 ^ 24 ||| ae_h4 a b c d / 2 ^ 8) = ae_w d a b c := by
  have e : ae_h4 a b c d / 2 ^ 8 = 256 * (256 * a + b) + c := by unfold ae_h4; omega
  rw [e, ae_orp 24 (by omega), show 2 ^ 24 * ae_h4 a b c d + (256 * (256 * a + b) + c) = 4294967296 * (256 * (256 * a + b) + c) + ae_h4 d a b c by unfold ae_h4; omega, ni_wrap]
theorem ae_dq : ∀ x, x < 256 → ((x &&& 127) * 2) ^^^ (x / 128 * 27) = ae_tq x := by decide +kernel
theorem ae_p1 : ∀ x y, y < 2 → (2 * x + y) &&& 1 = y := fun x y h => by rw [Nat.and_one_is_mod]; omega
theorem ae_dbl {a b c d : Nat} (ha : a < 256) (hb : b < 256) (hc : c < 256) (hd : d < 256) : nI (((ae_h4 a b c d &&& 2139062143) * 2 ^ 1) ^^^ ((ae_h4 a b c d / 2 ^ 7 &&& 16843009) * 27)) = ae_w (ae_tq a) (ae_tq b) (ae_tq c) (ae_tq d) := by
  have e1 : ae_h4 a b c d / 2 ^ 7 = ae_h4 (a / 128) (2 * (a % 128) + b / 128) (2 * (b % 128) + c / 128) (2 * (c % 128) + d / 128) := by unfold ae_h4; omega
  have e2 : (2139062143 : Nat) = ae_h4 127 127 127 127 := rfl
  have e3 : (16843009 : Nat) = ae_h4 1 1 1 1 := rfl
  have l : ∀ x, x < 256 → x &&& 127 < 128 := fun x h => Nat.and_lt_two_pow (n := 7) x (by decide)
  have h0 : a / 128 &&& 1 = a / 128 := by have := ae_p1 0 (a / 128) (by omega); rwa [Nat.mul_zero, Nat.zero_add] at this
  rw [e1, e2, e3, ae_a4 hb hc hd (by decide) (by decide) (by decide), ae_a4 (by omega) (by omega) (by omega) (by decide) (by decide) (by decide), h0, ae_p1 _ _ (by omega), ae_p1 _ _ (by omega), ae_p1 _ _ (by omega)]
  have e4 : ae_h4 (a &&& 127) (b &&& 127) (c &&& 127) (d &&& 127) * 2 ^ 1 = ae_h4 ((a &&& 127) * 2) ((b &&& 127) * 2) ((c &&& 127) * 2) ((d &&& 127) * 2) := by unfold ae_h4; omega
  have e5 : ae_h4 (a / 128) (b / 128) (c / 128) (d / 128) * 27 = ae_h4 (a / 128 * 27) (b / 128 * 27) (c / 128 * 27) (d / 128 * 27) := by unfold ae_h4; omega
  have lb := l b hb
  have lc := l c hc
  have ld := l d hd
  rw [e4, e5, ae_x4 (by omega) (by omega) (by omega) (by omega) (by omega) (by omega), ae_dq a ha, ae_dq b hb, ae_dq c hc, ae_dq d hd]
theorem ae_g0 {a b c d : Nat} (hb : b < 256) (hc : c < 256) (hd : d < 256) : ae_h4 a b c d / 2 ^ 24 = a := by unfold ae_h4; omega
theorem ae_g1 {a b c d : Nat} (hb : b < 256) (hc : c < 256) (hd : d < 256) : ae_h4 a b c d / 2 ^ 16 % 2 ^ 8 = b := by unfold ae_h4; omega
theorem ae_g2 {a b c d : Nat} (hc : c < 256) (hd : d < 256) : ae_h4 a b c d / 2 ^ 8 % 2 ^ 8 = c := by unfold ae_h4; omega
theorem ae_g3 {a b c d : Nat} (hd : d < 256) : ae_h4 a b c d % 2 ^ 8 = d := by unfold ae_h4; omega
theorem ae_o4 {a b c d : Nat} (hb : b < 256) (hc : c < 256) (hd : d < 256) : a * 2 ^ 24 ||| b * 2 ^ 16 ||| c * 2 ^ 8 ||| d = ae_h4 a b c d := by
  rw [ae_orp 24 (b := b * 2 ^ 16) (by omega)]
  rw [show 2 ^ 24 * a + b * 2 ^ 16 = (2 ^ 8 * a + b) * 2 ^ 16 by omega, ae_orp 16 (b := c * 2 ^ 8) (by omega)]
  rw [show 2 ^ 16 * (2 ^ 8 * a + b) + c * 2 ^ 8 = (2 ^ 16 * a + 2 ^ 8 * b + c) * 2 ^ 8 by omega, ae_orp 8 hd]
  unfold ae_h4; omega
