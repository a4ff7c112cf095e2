/-! numbers -/
theorem zx_xor (a b : Nat) : nI a ^^^ nI b = nI (a ^^^ b) := by
  apply Int32.toBitVec_inj.1
  show BitVec.ofNat 32 a ^^^ BitVec.ofNat 32 b = BitVec.ofNat 32 (a ^^^ b)
  apply BitVec.eq_of_getLsbD_eq
  intro i hi
  simp [hi]
theorem zx_shr1 {c : Nat} (h : c < 2 ^ 31) : nI c >>> ((1 : Int32) &&& 31) = nI (c / 2) := by
  rw [pk_shrN h _ 1 (by decide)]
theorem zx_ushr1 {c : Nat} (h : c < 2 ^ 31) : ushr (nI c) (1 : Int32) = nI (c / 2) := by
  unfold ushr
  rw [pk_ushrN (by omega) _ 1 (by decide)]
theorem zx_odd (c : Nat) (h : c < 2 ^ 31) : (nI c &&& (1 : Int32)) = (1 : Int32) ↔ c % 2 = 1 := by
  rw [pk_andN (by omega) 1 (by decide)]
  exact nI_eq (a := c % 2 ^ 1) (b := 1) (by omega) (by omega)
/-- one step of the check's eight -/
def stir1 (c : Nat) : Nat := if c % 2 = 1 then (c / 2) ^^^ 42684 else c / 2
theorem stir1_lt {c : Nat} (h : c < 65536) : stir1 c < 65536 := by
  unfold stir1
  split
  · exact Nat.xor_lt_two_pow (n := 16) (by omega) (by decide)
  · omega
def stirN : Nat → Nat → Nat
  | 0, c => c
  | k + 1, c => stirN k (stir1 c)
theorem stirN_lt : ∀ k {c : Nat}, c < 65536 → stirN k c < 65536
  | 0, _, h => h
  | k + 1, _, h => stirN_lt k (stir1_lt h)
def stir (c b : Nat) : Nat := stirN 8 (c ^^^ b)
theorem stir_lt {c b : Nat} (h : c < 65536) (hb : b < 65536) : stir c b < 65536 := stirN_lt 8 (Nat.xor_lt_two_pow (n := 16) h hb)
theorem fur_loop : ∀ (k n c : Nat), c < 65536 → k ≤ 8 → fX10_further_L6 (n + k + 1) (nI c) (nI (8 - k)) = some (nI (stirN k c)) := by
  intro k
  induction k with
  | zero =>
    intro n c hc hk
    rw [fX10_further_L6_s, brc_t (by (first | exact Or.inl rfl | exact Or.inr rfl | assumption | (simp (disch := omega) only [z_le, z_lt, z_eq, vp_in_iff, z_nI, ix_nI, Int32.reduceToInt, ix0, ix1, ix2, ix3] <;> omega)))]
    rfl
  | succ k ih =>
    intro n c hc hk
    rw [show n + (k + 1) + 1 = (n + k + 1) + 1 by omega, fX10_further_L6_s, brc_f (by (first | exact Or.inl rfl | exact Or.inr rfl | assumption | (simp (disch := omega) only [z_le, z_lt, z_eq, vp_in_iff, z_nI, ix_nI, Int32.reduceToInt, ix0, ix1, ix2, ix3] <;> omega)))]
    have e : nI (8 - (k + 1)) + (1 : Int32) = nI (8 - k) := by rw [show (1 : Int32) = nI 1 from rfl, nI_add]; congr 1; omega
    have ih' := ih n (stir1 c) (stir1_lt hc) (by omega)
    by_cases ho : c % 2 = 1
    · rw [brc_t ((zx_odd c (by omega)).mpr ho)]
      unfold fX10_further_L31
      rw [e, zx_shr1 (by omega), show (42684 : Int32) = nI 42684 from rfl, zx_xor]
      have es : stir1 c = (c / 2) ^^^ 42684 := if_pos ho
      rw [← es]
      exact ih'
    · rw [brc_f (fun z => ho ((zx_odd c (by omega)).mp z))]
      unfold fX10_further_L31
      rw [e, zx_shr1 (by omega)]
      have es : stir1 c = c / 2 := if_neg ho
      rw [← es]
      exact ih'
theorem fur_ok {c b : Nat} (hc : c < 65536) (hb : b < 65536) : fX10_further (nI c) (nI b) = some (nI (stir c b)) := by
  unfold fX10_further
  rw [zx_xor]
  exact fur_loop 8 (FU - 9) (c ^^^ b) (Nat.xor_lt_two_pow (n := 16) hc hb) (by omega)
theorem sti_loop : ∀ (k n c : Nat), c < 65536 → k ≤ 8 → fX9_stirIn_L6 (n + k + 1) (nI c) (nI (8 - k)) = some (nI (stirN k c)) := by
  intro k
  induction k with
  | zero =>
    intro n c hc hk
    rw [fX9_stirIn_L6_s, brc_t (by (first | exact Or.inl rfl | exact Or.inr rfl | assumption | (simp (disch := omega) only [z_le, z_lt, z_eq, vp_in_iff, z_nI, ix_nI, Int32.reduceToInt, ix0, ix1, ix2, ix3] <;> omega)))]
    rfl
  | succ k ih =>
    intro n c hc hk
    rw [show n + (k + 1) + 1 = (n + k + 1) + 1 by omega, fX9_stirIn_L6_s, brc_f (by (first | exact Or.inl rfl | exact Or.inr rfl | assumption | (simp (disch := omega) only [z_le, z_lt, z_eq, vp_in_iff, z_nI, ix_nI, Int32.reduceToInt, ix0, ix1, ix2, ix3] <;> omega)))]
    have e : nI (8 - (k + 1)) + (1 : Int32) = nI (8 - k) := by rw [show (1 : Int32) = nI 1 from rfl, nI_add]; congr 1; omega
    have ih' := ih n (stir1 c) (stir1_lt hc) (by omega)
    by_cases ho : c % 2 = 1
    · rw [brc_t ((zx_odd c (by omega)).mpr ho)]
      unfold fX9_stirIn_L31
      rw [e, zx_ushr1 (by omega), show (42684 : Int32) = nI 42684 from rfl, zx_xor]
      have es : stir1 c = (c / 2) ^^^ 42684 := if_pos ho
      rw [← es]
      exact ih'
    · rw [brc_f (fun z => ho ((zx_odd c (by omega)).mp z))]
      unfold fX9_stirIn_L31
      rw [e, zx_ushr1 (by omega)]
      have es : stir1 c = c / 2 := if_neg ho
      rw [← es]
      exact ih'
theorem sti_ok {c b : Nat} (hc : c < 65536) (hb : b < 65536) : fX9_stirIn (nI c) (nI b) = some (nI (stir c b)) := by
  unfold fX9_stirIn
  rw [zx_xor]
  exact sti_loop 8 (FU - 9) (c ^^^ b) (Nat.xor_lt_two_pow (n := 16) hc hb) (by omega)
