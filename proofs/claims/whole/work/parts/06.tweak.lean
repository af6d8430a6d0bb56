/-! longs of the tweak -/
theorem ae_op (i : Nat) {a b c d : Nat} (hb : b < 2 ^ i) (hd : d < 2 ^ i) : (2 ^ i * a + b) ||| (2 ^ i * c + d) = 2 ^ i * (a ||| c) + (b ||| d) := by
  apply Nat.eq_of_testBit_eq
  intro j
  rw [Nat.testBit_or, Nat.testBit_two_pow_mul_add a hb j, Nat.testBit_two_pow_mul_add c hd j, Nat.testBit_two_pow_mul_add _ (Nat.or_lt_two_pow hb hd) j]
  split <;> rw [Nat.testBit_or]
theorem ae_o8 {a b c d : Nat} (hb : b < 256) (hd : d < 256) : (256 * a + b) ||| (256 * c + d) = 256 * (a ||| c) + (b ||| d) := ae_op 8 hb hd
theorem ae_o44 {a b c d a' b' c' d' : Nat} (hb : b < 256) (hc : c < 256) (hd : d < 256) (hb' : b' < 256) (hc' : c' < 256) (hd' : d' < 256) : ae_h4 a b c d ||| ae_h4 a' b' c' d' = ae_h4 (a ||| a') (b ||| b') (c ||| c') (d ||| d') := by
  unfold ae_h4
  rw [ae_o8 hd hd', ae_o8 hc hc', ae_o8 hb hb']
theorem ae_dor : ∀ x y, x < 256 → y < 256 → ((x &&& 127) * 2) ||| (y / 128) = 2 * (x % 128) + y / 128 := fun x y _ hy => by
  have e : x &&& 127 = x % 128 := Nat.and_two_pow_sub_one_eq_mod x 7
  have h := ae_orp 1 (a := x % 128) (b := y / 128) (by omega)
  rw [e]
  rw [show x % 128 * 2 = x % 128 * 2 ^ 1 by omega, h]
theorem ae_dor0 : ∀ x, x < 256 → ((x &&& 127) * 2) ||| 0 = 2 * (x % 128) := fun x _ => by
  rw [Nat.or_zero, show x &&& 127 = x % 128 from Nat.and_two_pow_sub_one_eq_mod x 7, Nat.mul_comm]
/-- doubleBytes on eight bytes -/
theorem ae_dbytes {a b c d e f g h : Nat} (ha : a < 256) (hb : b < 256) (hc : c < 256) (hd : d < 256) (he : e < 256) (hf : f < 256) (hg : g < 256) (hh : h < 256) :
    (((4294967296 * ae_h4 a b c d + ae_h4 e f g h) &&& 9187201950435737471) * 2 ^ 1) ||| ((4294967296 * ae_h4 a b c d + ae_h4 e f g h) / 2 ^ 15 &&& 282578800148737) =
    4294967296 * ae_h4 (2 * (a % 128)) (2 * (b % 128) + a / 128) (2 * (c % 128) + b / 128) (2 * (d % 128) + c / 128) + ae_h4 (2 * (e % 128) + d / 128) (2 * (f % 128) + e / 128) (2 * (g % 128) + f / 128) (2 * (h % 128) + g / 128) := by
  have l : ∀ x, x < 256 → x &&& 127 < 128 := fun x h => Nat.and_lt_two_pow (n := 7) x (by decide)
  have h1 := ae_h4_lt ha hb hc hd
  have h2 := ae_h4_lt he hf hg hh
  have e1 : (4294967296 * ae_h4 a b c d + ae_h4 e f g h) / 2 ^ 15 = 4294967296 * ae_h4 0 (a / 128) (2 * (a % 128) + b / 128) (2 * (b % 128) + c / 128) + ae_h4 (2 * (c % 128) + d / 128) (2 * (d % 128) + e / 128) (2 * (e % 128) + f / 128) (2 * (f % 128) + g / 128) := by
    unfold ae_h4; omega
  have e2 : (9187201950435737471 : Nat) = 4294967296 * ae_h4 127 127 127 127 + ae_h4 127 127 127 127 := by decide
  have e3 : (282578800148737 : Nat) = 4294967296 * ae_h4 0 1 1 1 + ae_h4 1 1 1 1 := by decide
  have k1 : ae_h4 (2 * (c % 128) + d / 128) (2 * (d % 128) + e / 128) (2 * (e % 128) + f / 128) (2 * (f % 128) + g / 128) < 4294967296 := ae_h4_lt (by omega) (by omega) (by omega) (by omega)
  have k2 : ae_h4 127 127 127 127 < 4294967296 := by decide
  have k3 : ae_h4 1 1 1 1 < 4294967296 := by decide
  have p0 : a / 128 &&& 1 = a / 128 := by have := ae_p1 0 (a / 128) (by omega); rwa [Nat.mul_zero, Nat.zero_add] at this
  rw [e1, e2, e3]
  rw [show (4294967296 : Nat) = 2 ^ 32 from rfl, ae_ap 32 h2 k2, ae_ap 32 k1 k3]
  rw [ae_a4 hb hc hd (by decide) (by decide) (by decide), ae_a4 hf hg hh (by decide) (by decide) (by decide), ae_a4 (by omega) (by omega) (by omega) (by decide) (by decide) (by decide), ae_a4 (by omega) (by omega) (by omega) (by decide) (by decide) (by decide)]
  rw [p0, ae_p1 _ _ (by omega), ae_p1 _ _ (by omega), ae_p1 _ _ (by omega), ae_p1 _ _ (by omega), ae_p1 _ _ (by omega), ae_p1 _ _ (by omega)]
  have la := l a ha
  have lb := l b hb
  have lc := l c hc
  have ld := l d hd
  have le := l e he
  have lf := l f hf
  have lg := l g hg
  have lh := l h hh
  have e4 : (2 ^ 32 * ae_h4 (a &&& 127) (b &&& 127) (c &&& 127) (d &&& 127) + ae_h4 (e &&& 127) (f &&& 127) (g &&& 127) (h &&& 127)) * 2 ^ 1 = 2 ^ 32 * ae_h4 ((a &&& 127) * 2) ((b &&& 127) * 2) ((c &&& 127) * 2) ((d &&& 127) * 2) + ae_h4 ((e &&& 127) * 2) ((f &&& 127) * 2) ((g &&& 127) * 2) ((h &&& 127) * 2) := by unfold ae_h4; omega
  have k4 : ae_h4 ((e &&& 127) * 2) ((f &&& 127) * 2) ((g &&& 127) * 2) ((h &&& 127) * 2) < 2 ^ 32 := ae_h4_lt (by omega) (by omega) (by omega) (by omega)
  have k5 : ae_h4 (d / 128) (e / 128) (f / 128) (g / 128) < 2 ^ 32 := ae_h4_lt (by omega) (by omega) (by omega) (by omega)
  rw [e4, ae_op 32 k4 k5, ae_o44 (by omega) (by omega) (by omega) (by omega) (by omega) (by omega), ae_o44 (by omega) (by omega) (by omega) (by omega) (by omega) (by omega)]
  rw [show (0 &&& 0 : Nat) = 0 from rfl, ae_dor0 a ha, ae_dor b a hb ha, ae_dor c b hc hb, ae_dor d c hd hc, ae_dor e d he hd, ae_dor f e hf he, ae_dor g f hg hf, ae_dor h g hh hg]
