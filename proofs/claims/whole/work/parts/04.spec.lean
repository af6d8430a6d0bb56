/-! the cipher as a function of bytes -/
def ae_ix1 (k : Nat) : Nat := 4 * ((k / 4 + k % 4) % 4) + k % 4
def ae_ix2 (k : Nat) : Nat := 4 * ((k / 4 + 16 - k % 4) % 4) + k % 4
def ae_mg (a b c d : Nat) (T : Nat → Nat) (k : Nat) : Nat := ae_tm (T k) a ^^^ ae_tm (T (k / 4 * 4 + (k % 4 + 1) % 4)) b ^^^ ae_tm (T (k / 4 * 4 + (k % 4 + 2) % 4)) c ^^^ ae_tm (T (k / 4 * 4 + (k % 4 + 3) % 4)) d
def ae_rc : Nat → Nat
  | 0 => 1
  | n + 1 => ae_tm (ae_rc n) 2
/-- the key's schedule, byte by byte -/
def ae_kx (K : Nat → Nat) (k : Nat) : Nat :=
  if h : k < 16 then K k
  else ae_kx K (k - 16) ^^^ (if k % 16 < 4 then ae_sb (ae_kx K (k - k % 4 - 4 + (k + 1) % 4)) else ae_kx K (k - 4)) ^^^ (if k % 16 = 0 then ae_rc (k / 16 - 1) else 0)
termination_by k
decreasing_by all_goals omega
/-- a round of enciphering -/
def ae_eS (S : Nat → Nat) (k : Nat) : Nat := ae_sb (S (ae_ix1 k))
def ae_eR (K : Nat → Nat) (r : Nat) (S : Nat → Nat) (k : Nat) : Nat := (if r < 10 then ae_mg 2 3 1 1 (ae_eS S) k else ae_eS S k) ^^^ K (16 * r + k)
def ae_en (K S : Nat → Nat) : Nat → Nat → Nat
  | 0 => fun k => S k ^^^ K k
  | r + 1 => ae_eR K (r + 1) (ae_en K S r)
/-- a round of deciphering: behind the key of round r -/
def ae_dX (K : Nat → Nat) (r : Nat) (S : Nat → Nat) (k : Nat) : Nat := if r = 0 ∨ r = 10 then S k ^^^ K (16 * r + k) else ae_mg 14 11 13 9 (fun j => S j ^^^ K (16 * r + j)) k
def ae_dS (S : Nat → Nat) (k : Nat) : Nat := ae_ib (S (ae_ix2 k))
def ae_rh (K S : Nat → Nat) : Nat → Nat → Nat
  | 0 => S
  | j + 1 => ae_dS (ae_dX K (10 - j) (ae_rh K S j))
def ae_enc (K S : Nat → Nat) : Nat → Nat := ae_en K S 10
def ae_dec (K S : Nat → Nat) : Nat → Nat := ae_dX K 0 (ae_rh K S 10)
theorem ae_x_lt {a b : Nat} (ha : a < 256) (hb : b < 256) : a ^^^ b < 256 := Nat.xor_lt_two_pow (n := 8) ha hb
theorem ae_mg_lt {T : Nat → Nat} (h : ae_B T) (a b c d : Nat) : ae_B (ae_mg a b c d T) := fun k =>
  ae_x_lt (ae_x_lt (ae_x_lt (ae_tm_lt a (h _)) (ae_tm_lt b (h _))) (ae_tm_lt c (h _))) (ae_tm_lt d (h _))
theorem ae_rc_lt : ∀ n, ae_rc n < 256
  | 0 => by decide
  | n + 1 => ae_tm_lt 2 (ae_rc_lt n)
theorem ae_kx_lt {K : Nat → Nat} (h : ae_B K) (k : Nat) : ae_kx K k < 256 := by
  induction k using Nat.strongRecOn with
  | ind k ih =>
    rw [ae_kx]
    split
    · exact h k
    · rename_i hk
      refine ae_x_lt (ae_x_lt (ih _ (by omega)) ?_) ?_
      · split
        · exact ae_sb_lt _ (ih _ (by omega))
        · exact ih _ (by omega)
      · split
        · exact ae_rc_lt _
        · omega
theorem ae_eS_lt {S : Nat → Nat} (h : ae_B S) : ae_B (ae_eS S) := fun k => ae_sb_lt _ (h _)
theorem ae_dS_lt {S : Nat → Nat} (h : ae_B S) : ae_B (ae_dS S) := fun k => ae_ib_lt _ (h _)
theorem ae_eR_lt {K S : Nat → Nat} (hK : ae_B K) (h : ae_B S) (r : Nat) : ae_B (ae_eR K r S) := fun k => by
  refine ae_x_lt ?_ (hK _)
  split
  · exact ae_mg_lt (ae_eS_lt h) _ _ _ _ k
  · exact ae_eS_lt h k
theorem ae_en_lt {K S : Nat → Nat} (hK : ae_B K) (h : ae_B S) : ∀ r, ae_B (ae_en K S r)
  | 0 => fun k => ae_x_lt (h k) (hK k)
  | r + 1 => ae_eR_lt hK (ae_en_lt hK h r) _
theorem ae_dX_lt {K S : Nat → Nat} (hK : ae_B K) (h : ae_B S) (r : Nat) : ae_B (ae_dX K r S) := fun k => by
  unfold ae_dX
  split
  · exact ae_x_lt (h k) (hK _)
  · exact ae_mg_lt (fun j => ae_x_lt (h j) (hK _)) _ _ _ _ k
theorem ae_rh_lt {K S : Nat → Nat} (hK : ae_B K) (h : ae_B S) : ∀ j, ae_B (ae_rh K S j)
  | 0 => h
  | j + 1 => ae_dS_lt (ae_dX_lt hK (ae_rh_lt hK h j) _)
/-- what a method of the class does to a column -/
def ae_mx (a b c d : Nat) : Nat := ae_tq a ^^^ (ae_tq b ^^^ b) ^^^ c ^^^ d
def ae_um (a b c d : Nat) : Nat := ae_tm a 14 ^^^ ae_tm b 11 ^^^ ae_tm c 13 ^^^ ae_tm d 9
theorem ae_mx_tm {a b c d : Nat} (ha : a < 256) (hb : b < 256) (hc : c < 256) (hd : d < 256) : ae_tm a 2 ^^^ ae_tm b 3 ^^^ ae_tm c 1 ^^^ ae_tm d 1 = ae_mx a b c d := by
  rw [ae_tm2 a ha, ae_tm3 b hb, ae_tm1 c hc, ae_tm1 d hd]; rfl
theorem ae_um_mx {a b c d : Nat} (ha : a < 256) (hb : b < 256) (hc : c < 256) (hd : d < 256) :
    ae_mx (a ^^^ ae_tq (ae_tq (a ^^^ c))) (b ^^^ ae_tq (ae_tq (b ^^^ d))) (c ^^^ ae_tq (ae_tq (c ^^^ a))) (d ^^^ ae_tq (ae_tq (d ^^^ b))) = ae_um a b c d := by
  have t : ∀ {x}, x < 256 → ae_tq x < 256 := fun {x} h => ae_tq_lt x h
  unfold ae_mx ae_um
  rw [ae_tm14 a ha, ae_tm11 b hb, ae_tm13 c hc, ae_tm9 d hd]
  rw [ae_tqx ha hc, ae_tqx hb hd, ae_tqx hc ha, ae_tqx hd hb, ae_tqx (t ha) (t hc), ae_tqx (t hb) (t hd), ae_tqx (t hc) (t ha), ae_tqx (t hd) (t hb)]
  rw [ae_tqx ha (ae_x_lt (t (t ha)) (t (t hc))), ae_tqx hb (ae_x_lt (t (t hb)) (t (t hd))), ae_tqx (t (t ha)) (t (t hc)), ae_tqx (t (t hb)) (t (t hd))]
  generalize ae_tq (ae_tq (ae_tq a)) = a3
  generalize ae_tq (ae_tq (ae_tq b)) = b3
  generalize ae_tq (ae_tq (ae_tq c)) = c3
  generalize ae_tq (ae_tq (ae_tq d)) = d3
  generalize ae_tq (ae_tq a) = a2
  generalize ae_tq (ae_tq b) = b2
  generalize ae_tq (ae_tq c) = c2
  generalize ae_tq (ae_tq d) = d2
  generalize ae_tq a = a1
  generalize ae_tq b = b1
  simp only [Nat.xor_assoc, Nat.xor_comm, ae_xl, ae_xx, Nat.xor_self, Nat.xor_zero, Nat.zero_xor]
/-- the tweak doubled -/
def ae_db (S : Nat → Nat) (k : Nat) : Nat := if k = 0 then (2 * (S 0 % 128)) ^^^ (if 127 < S 15 then 135 else 0) else 2 * (S k % 128) + S (k - 1) / 128
def ae_tw (T : Nat → Nat) : Nat → Nat → Nat
  | 0 => T
  | j + 1 => ae_db (ae_tw T j)
theorem ae_db_lt {S : Nat → Nat} (h : ae_B S) : ae_B (ae_db S) := fun k => by
  unfold ae_db
  split
  · refine ae_x_lt (by omega) ?_
    split <;> omega
  · have := h (k - 1); omega
theorem ae_tw_lt {T : Nat → Nat} (h : ae_B T) : ∀ j, ae_B (ae_tw T j)
  | 0 => h
  | j + 1 => ae_db_lt (ae_tw_lt h j)
/-- the tweak's first block: the sector's number, the lowest byte first -/
def ae_sn (s k : Nat) : Nat := if k < 4 then s / 2 ^ (8 * k) % 256 else 0
theorem ae_sn_lt (s : Nat) : ae_B (ae_sn s) := fun k => by
  unfold ae_sn
  split
  · exact Nat.mod_lt _ (by decide)
  · omega
/-- sixteen bytes of a row, and put back -/
def ae_at (S : Nat → Nat) (i : Nat) : Nat → Nat := fun k => S (i + k)
def ae_pt (S : Nat → Nat) (i n : Nat) (T : Nat → Nat) : Nat → Nat := fun k => if i ≤ k ∧ k < i + n then T (k - i) else S k
theorem ae_at_lt {S : Nat → Nat} (h : ae_B S) (i : Nat) : ae_B (ae_at S i) := fun k => h _
theorem ae_pt_lt {S T : Nat → Nat} (h : ae_B S) (hT : ae_B T) (i n : Nat) : ae_B (ae_pt S i n T) := fun k => by
  unfold ae_pt
  split
  · exact hT _
  · exact h k
def ae_xf (S T : Nat → Nat) : Nat → Nat := fun k => S k ^^^ T k
theorem ae_xf_lt {S T : Nat → Nat} (h : ae_B S) (hT : ae_B T) : ae_B (ae_xf S T) := fun k => ae_x_lt (h k) (hT k)
/-- a sector behind j blocks -/
def ae_sj (F : (Nat → Nat) → Nat → Nat) (T S : Nat → Nat) : Nat → Nat → Nat
  | 0 => S
  | j + 1 => ae_pt (ae_sj F T S j) (16 * j) 16 (ae_xf (F (ae_xf (ae_at (ae_sj F T S j) (16 * j)) (ae_tw T j))) (ae_tw T j))
theorem ae_mg0 (p q r t : Nat) (T : Nat → Nat) (c : Nat) : ae_mg p q r t T (4 * c) = ae_tm (T (4 * c)) p ^^^ ae_tm (T (4 * c + 1)) q ^^^ ae_tm (T (4 * c + 2)) r ^^^ ae_tm (T (4 * c + 3)) t := by
  unfold ae_mg
  rw [show 4 * c / 4 * 4 + (4 * c % 4 + 1) % 4 = 4 * c + 1 by omega, show 4 * c / 4 * 4 + (4 * c % 4 + 2) % 4 = 4 * c + 2 by omega, show 4 * c / 4 * 4 + (4 * c % 4 + 3) % 4 = 4 * c + 3 by omega]
theorem ae_mg1 (p q r t : Nat) (T : Nat → Nat) (c : Nat) : ae_mg p q r t T (4 * c + 1) = ae_tm (T (4 * c + 1)) p ^^^ ae_tm (T (4 * c + 2)) q ^^^ ae_tm (T (4 * c + 3)) r ^^^ ae_tm (T (4 * c)) t := by
  unfold ae_mg
  rw [show (4 * c + 1) / 4 * 4 + ((4 * c + 1) % 4 + 1) % 4 = 4 * c + 2 by omega, show (4 * c + 1) / 4 * 4 + ((4 * c + 1) % 4 + 2) % 4 = 4 * c + 3 by omega, show (4 * c + 1) / 4 * 4 + ((4 * c + 1) % 4 + 3) % 4 = 4 * c by omega]
theorem ae_mg2 (p q r t : Nat) (T : Nat → Nat) (c : Nat) : ae_mg p q r t T (4 * c + 2) = ae_tm (T (4 * c + 2)) p ^^^ ae_tm (T (4 * c + 3)) q ^^^ ae_tm (T (4 * c)) r ^^^ ae_tm (T (4 * c + 1)) t := by
  unfold ae_mg
  rw [show (4 * c + 2) / 4 * 4 + ((4 * c + 2) % 4 + 1) % 4 = 4 * c + 3 by omega, show (4 * c + 2) / 4 * 4 + ((4 * c + 2) % 4 + 2) % 4 = 4 * c by omega, show (4 * c + 2) / 4 * 4 + ((4 * c + 2) % 4 + 3) % 4 = 4 * c + 1 by omega]
theorem ae_mg3 (p q r t : Nat) (T : Nat → Nat) (c : Nat) : ae_mg p q r t T (4 * c + 3) = ae_tm (T (4 * c + 3)) p ^^^ ae_tm (T (4 * c)) q ^^^ ae_tm (T (4 * c + 1)) r ^^^ ae_tm (T (4 * c + 2)) t := by
  unfold ae_mg
  rw [show (4 * c + 3) / 4 * 4 + ((4 * c + 3) % 4 + 1) % 4 = 4 * c by omega, show (4 * c + 3) / 4 * 4 + ((4 * c + 3) % 4 + 2) % 4 = 4 * c + 1 by omega, show (4 * c + 3) / 4 * 4 + ((4 * c + 3) % 4 + 3) % 4 = 4 * c + 2 by omega]
/-- a column mixed, as the class has it -/
theorem ae_mxc {T : Nat → Nat} (h : ae_B T) (c : Nat) : ae_w (ae_mx (T (4 * c)) (T (4 * c + 1)) (T (4 * c + 2)) (T (4 * c + 3))) (ae_mx (T (4 * c + 1)) (T (4 * c + 2)) (T (4 * c + 3)) (T (4 * c))) (ae_mx (T (4 * c + 2)) (T (4 * c + 3)) (T (4 * c)) (T (4 * c + 1))) (ae_mx (T (4 * c + 3)) (T (4 * c)) (T (4 * c + 1)) (T (4 * c + 2))) = ae_wf (ae_mg 2 3 1 1 T) (4 * c) := by
  rw [← ae_mx_tm (h _) (h _) (h _) (h _), ← ae_mx_tm (h _) (h _) (h _) (h _), ← ae_mx_tm (h _) (h _) (h _) (h _), ← ae_mx_tm (h _) (h _) (h _) (h _)]
  show _ = ae_w _ _ _ _
  rw [ae_mg0, ae_mg1, ae_mg2, ae_mg3]
theorem ae_umc (T : Nat → Nat) (c : Nat) : ae_w (ae_um (T (4 * c)) (T (4 * c + 1)) (T (4 * c + 2)) (T (4 * c + 3))) (ae_um (T (4 * c + 1)) (T (4 * c + 2)) (T (4 * c + 3)) (T (4 * c))) (ae_um (T (4 * c + 2)) (T (4 * c + 3)) (T (4 * c)) (T (4 * c + 1))) (ae_um (T (4 * c + 3)) (T (4 * c)) (T (4 * c + 1)) (T (4 * c + 2))) = ae_wf (ae_mg 14 11 13 9 T) (4 * c) := by
  show _ = ae_w _ _ _ _
  rw [ae_mg0, ae_mg1, ae_mg2, ae_mg3]
  rfl
theorem ae_mx_lt {a b c d : Nat} (ha : a < 256) (hb : b < 256) (hc : c < 256) (hd : d < 256) : ae_mx a b c d < 256 :=
  ae_x_lt (ae_x_lt (ae_x_lt (ae_tq_lt a ha) (ae_x_lt (ae_tq_lt b hb) hb)) hc) hd
theorem ae_wfx {S T : Nat → Nat} (hS : ae_B S) (hT : ae_B T) (i j : Nat) : ae_wf S i ^^^ ae_wf T j = ae_w (S i ^^^ T j) (S (i + 1) ^^^ T (j + 1)) (S (i + 2) ^^^ T (j + 2)) (S (i + 3) ^^^ T (j + 3)) :=
  ae_wx (hS _) (hS _) (hS _) (hT _) (hT _) (hT _)
