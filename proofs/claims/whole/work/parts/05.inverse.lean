/-! the reference's search for an inverse, and its sum of turned bytes -/
theorem ae_bit (b k : Nat) : Nat.beq (Nat.land (Nat.shiftRight b k) 1) 1 = true ↔ b / 2 ^ k % 2 = 1 := by
  show Nat.beq ((b >>> k) &&& 1) 1 = true ↔ _
  rw [Nat.and_one_is_mod, Nat.shiftRight_eq_div_pow]
  exact ⟨fun h => Nat.eq_of_beq_eq_true h, fun h => by rw [h]; rfl⟩
theorem ae_tu_s (b k s x n : Nat) : ae_tu b k s x (n + 1) = ae_tu b (k + 1) (if b / 2 ^ k % 2 = 1 then s ^^^ x else s) (ae_tq x) n := by
  show ae_tu b (k + 1) (if Nat.beq (Nat.land (Nat.shiftRight b k) 1) 1 = true then Nat.xor s x else s) (if Nat.ble 128 x = true then Nat.xor (Nat.mul x 2) 283 else Nat.mul x 2) n = _
  have e1 : (if Nat.beq (Nat.land (Nat.shiftRight b k) 1) 1 = true then Nat.xor s x else s) = (if b / 2 ^ k % 2 = 1 then s ^^^ x else s) := by
    by_cases h : b / 2 ^ k % 2 = 1
    · rw [if_pos h, if_pos ((ae_bit b k).mpr h)]; rfl
    · rw [if_neg h, if_neg (fun z => h ((ae_bit b k).mp z))]
  have e2 : (if Nat.ble 128 x = true then Nat.xor (Nat.mul x 2) 283 else Nat.mul x 2) = ae_tq x := by
    unfold ae_tq
    by_cases h : 127 < x
    · rw [if_pos h, if_pos (Nat.ble_eq.mpr h)]; rfl
    · rw [if_neg h, if_neg (fun z => h (Nat.ble_eq.mp z))]; rfl
  rw [e1, e2]
theorem ae_tu_tl (a b : Nat) : ∀ n k, ae_tu b k (ae_tl a b k).1 (ae_tl a b k).2 n = (ae_tl a b (k + n)).1
  | 0, k => rfl
  | n + 1, k => by
    rw [ae_tu_s]
    have h := ae_tu_tl a b n (k + 1)
    rw [show k + 1 + n = k + (n + 1) by omega] at h
    exact h
theorem ae_tm_tu (a b : Nat) : ae_tm a b = ae_tu b 0 0 a 8 := (ae_tu_tl a b 8 0).symm
def ae_ck (v : Nat) : Bool := (List.range 256).all (fun j => Nat.beq j 0 || (Nat.beq (ae_tu j 0 0 v 8) 1 == Nat.beq j (ae_iv v)))
theorem ae_ck0 : (List.range 64).all (fun v => ae_ck v) = true := by decide +kernel
theorem ae_ck1 : (List.range 64).all (fun v => ae_ck (64 + v)) = true := by decide +kernel
theorem ae_ck2 : (List.range 64).all (fun v => ae_ck (128 + v)) = true := by decide +kernel
theorem ae_ck3 : (List.range 64).all (fun v => ae_ck (192 + v)) = true := by decide +kernel
theorem ae_ckv {v : Nat} (hv : v < 256) : ae_ck v = true := by
  rcases Nat.lt_or_ge v 64 with h | h
  · exact List.all_eq_true.mp ae_ck0 v (List.mem_range.mpr h)
  · rcases Nat.lt_or_ge v 128 with h2 | h2
    · have := List.all_eq_true.mp ae_ck1 (v - 64) (List.mem_range.mpr (by omega))
      rwa [show 64 + (v - 64) = v by omega] at this
    · rcases Nat.lt_or_ge v 192 with h3 | h3
      · have := List.all_eq_true.mp ae_ck2 (v - 128) (List.mem_range.mpr (by omega))
        rwa [show 128 + (v - 128) = v by omega] at this
      · have := List.all_eq_true.mp ae_ck3 (v - 192) (List.mem_range.mpr (by omega))
        rwa [show 192 + (v - 192) = v by omega] at this
theorem ae_inv {v j : Nat} (hv : v < 256) (h0 : 0 < j) (hj : j < 256) : ae_tm v j = 1 ↔ j = ae_iv v := by
  have h := List.all_eq_true.mp (ae_ckv hv) j (List.mem_range.mpr hj)
  have e : Nat.beq j 0 = false := by cases j with
    | zero => omega
    | succ j => rfl
  rw [e, Bool.false_or, beq_iff_eq] at h
  rw [ae_tm_tu]
  constructor
  · intro z
    rw [z] at h
    exact Nat.eq_of_beq_eq_true h.symm
  · intro z
    have h2 : Nat.beq j (ae_iv v) = true := by rw [z]; exact Nat.beq_refl _
    rw [h2] at h
    exact Nat.eq_of_beq_eq_true h
def ae_al (w : Nat) : Nat → Nat
  | 0 => 99
  | k + 1 => ae_al w k ^^^ ((w * 2 ^ k ||| w / 2 ^ (8 - k)) % 2 ^ 8)
theorem ae_af : ∀ v, v < 256 → ae_al (ae_iv v) 5 = ae_sb v := by decide +kernel
