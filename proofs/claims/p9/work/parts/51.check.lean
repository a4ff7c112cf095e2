/-! the check, on both sides -/
def ckN (f : Nat → Int32) : Nat → Nat → Nat → Nat
  | _, 0, c => c
  | a, k + 1, c => ckN f (a + 1) k (stir c (ix (f a)))
theorem byt_ix {f : Nat → Int32} (h : byt f) (i : Nat) : ix (f i) < 256 ∧ f i = nI (ix (f i)) := by
  have h1 := h i
  exact ⟨by rw [z_ix]; omega, z_of h1.1⟩
theorem ckN_lt {f : Nat → Int32} (h : byt f) : ∀ k a c, c < 65536 → ckN f a k c < 65536
  | 0, _, _, hc => hc
  | k + 1, a, _, hc => ckN_lt h k (a + 1) _ (stir_lt hc (by have := byt_ix h a; omega))
theorem zx_inv {c : Nat} : nI c ^^^ (65535 : Int32) = nI (c ^^^ 65535) := zx_xor c 65535
theorem inv_lt {c : Nat} (h : c < 65536) : c ^^^ 65535 < 65536 := Nat.xor_lt_two_pow (n := 16) h (by decide)
theorem c_ck_loop {N : Nat} {f : Nat → Int32} (hb : byt f) (hN : N < 5000) : ∀ (k n a c : Nat), c < 65536 → a + k ≤ N → fX9_checkOf_L5 N f (n + k + 1) (nI (a + k)) (nI c) (nI a) = some (nI (ckN f a k c ^^^ 65535)) := by
  intro k
  induction k with
  | zero =>
    intro n a c hc ha
    rw [fX9_checkOf_L5_s, brc_t (by (first | exact Or.inl rfl | exact Or.inr rfl | assumption | (simp (disch := omega) only [z_le, z_lt, z_eq, vp_in_iff, z_nI, ix_nI, Int32.reduceToInt, ix0, ix1, ix2, ix3] <;> omega))), zx_inv]
    rfl
  | succ k ih =>
    intro n a c hc ha
    rw [show n + (k + 1) + 1 = (n + k + 1) + 1 by omega, fX9_checkOf_L5_s, brc_f (by (first | exact Or.inl rfl | exact Or.inr rfl | assumption | (simp (disch := omega) only [z_le, z_lt, z_eq, vp_in_iff, z_nI, ix_nI, Int32.reduceToInt, ix0, ix1, ix2, ix3] <;> omega))), grd_t (by (first | exact Or.inl rfl | exact Or.inr rfl | assumption | (simp (disch := omega) only [z_le, z_lt, z_eq, vp_in_iff, z_nI, ix_nI, Int32.reduceToInt, ix0, ix1, ix2, ix3] <;> omega))), ix_nI (by omega), (byt_ix hb a).2, bnd_t (sti_ok hc (by have := byt_ix hb a; omega)), nI_1, show a + (k + 1) = (a + 1) + k by omega]
    exact ih n (a + 1) _ (stir_lt hc (by have := byt_ix hb a; omega)) (by omega)
theorem m_ck_loop {N : Nat} {f : Nat → Int32} (hb : byt f) (hN : N < 5000) : ∀ (k n a c : Nat), c < 65536 → a + k ≤ N → fX10_checkOf_L5 N f (n + k + 1) (nI (a + k)) (nI c) (nI a) = some (nI (ckN f a k c ^^^ 65535)) := by
  intro k
  induction k with
  | zero =>
    intro n a c hc ha
    rw [fX10_checkOf_L5_s, brc_t (by (first | exact Or.inl rfl | exact Or.inr rfl | assumption | (simp (disch := omega) only [z_le, z_lt, z_eq, vp_in_iff, z_nI, ix_nI, Int32.reduceToInt, ix0, ix1, ix2, ix3] <;> omega))), zx_inv]
    rfl
  | succ k ih =>
    intro n a c hc ha
    rw [show n + (k + 1) + 1 = (n + k + 1) + 1 by omega, fX10_checkOf_L5_s, brc_f (by (first | exact Or.inl rfl | exact Or.inr rfl | assumption | (simp (disch := omega) only [z_le, z_lt, z_eq, vp_in_iff, z_nI, ix_nI, Int32.reduceToInt, ix0, ix1, ix2, ix3] <;> omega))), grd_t (by (first | exact Or.inl rfl | exact Or.inr rfl | assumption | (simp (disch := omega) only [z_le, z_lt, z_eq, vp_in_iff, z_nI, ix_nI, Int32.reduceToInt, ix0, ix1, ix2, ix3] <;> omega))), ix_nI (by omega), (byt_ix hb a).2, bnd_t (fur_ok hc (by have := byt_ix hb a; omega)), nI_1, show a + (k + 1) = (a + 1) + k by omega]
    exact ih n (a + 1) _ (stir_lt hc (by have := byt_ix hb a; omega)) (by omega)
theorem c_ck {N : Nat} {f : Nat → Int32} (hb : byt f) (hN : N < 5000) {a k : Nat} (h : a + k ≤ N) : fX9_checkOf N f (nI a) (nI (a + k)) = some (nI (ckN f a k 0 ^^^ 65535)) := by
  unfold fX9_checkOf
  rw [show FU = (4999 - k) + k + 1 by unfold FU; omega]
  exact c_ck_loop hb hN k _ a 0 (by decide) h
theorem m_ck {N : Nat} {f : Nat → Int32} (hb : byt f) (hN : N < 5000) {a k : Nat} (h : a + k ≤ N) : fX10_checkOf N f (nI a) (nI (a + k)) = some (nI (ckN f a k 0 ^^^ 65535)) := by
  unfold fX10_checkOf
  rw [show FU = (4999 - k) + k + 1 by unfold FU; omega]
  exact m_ck_loop hb hN k _ a 0 (by decide) h
/-- two bytes as a number -/
def two (f : Nat → Int32) (a : Nat) : Nat := ix (f a) + 256 * ix (f (a + 1))
theorem two_lt {f : Nat → Int32} (hb : byt f) (a : Nat) : two f a < 65536 := by
  unfold two
  have := byt_ix hb a
  have := byt_ix hb (a + 1)
  omega
theorem zx_or (a b : Nat) : nI a ||| nI b = nI (a ||| b) := by
  apply Int32.toBitVec_inj.1
  show BitVec.ofNat 32 a ||| BitVec.ofNat 32 b = BitVec.ofNat 32 (a ||| b)
  apply BitVec.eq_of_getLsbD_eq
  intro i hi
  simp [hi]
theorem zx_two {p q : Nat} (hp : p < 256) (hq : q < 256) : nI p ||| (nI q <<< ((8 : Int32) &&& 31)) = nI (p + 256 * q) := by
  rw [pk_shlN _ 8 (by decide) (by omega), zx_or]
  congr 1
  rw [Nat.or_comm, Nat.mul_comm q (2 ^ 8), ← Nat.two_pow_add_eq_or_of_lt (by omega)]
  omega
theorem c_two {f : Nat → Int32} (hb : byt f) {a : Nat} (h : a + 2 ≤ 311) : fX4_twoAt f (nI a) = some (nI (two f a)) := by
  unfold fX4_twoAt two
  rw [nI_1, grd_t (by (first | exact Or.inl rfl | exact Or.inr rfl | assumption | (simp (disch := omega) only [z_le, z_lt, z_eq, vp_in_iff, z_nI, ix_nI, Int32.reduceToInt, ix0, ix1, ix2, ix3] <;> omega))), grd_t (by (first | exact Or.inl rfl | exact Or.inr rfl | assumption | (simp (disch := omega) only [z_le, z_lt, z_eq, vp_in_iff, z_nI, ix_nI, Int32.reduceToInt, ix0, ix1, ix2, ix3] <;> omega))), ix_nI (by omega), ix_nI (by omega)]
  have h1 := byt_ix hb a
  have h2 := byt_ix hb (a + 1)
  congr 1
  have e := zx_two h1.1 h2.1
  rw [← h1.2, ← h2.2] at e
  exact e
/-- whether the two bytes behind k bytes from a are their check -/
def ckR (f : Nat → Int32) (a k : Nat) : Int32 := if two f (a + k) = ckN f a k 0 ^^^ 65535 then 1 else 0
theorem ckR_b (f : Nat → Int32) (a k : Nat) : isB (ckR f a k) := by
  unfold ckR isB
  split
  · exact Or.inr rfl
  · exact Or.inl rfl
theorem c_right {f : Nat → Int32} (hb : byt f) {a k : Nat} (h : a + k + 2 ≤ 311) : fX4_isCheckRight f (nI a) (nI (a + k)) = some (ckR f a k) := by
  unfold fX4_isCheckRight
  rw [bnd_t (c_two hb h), bnd_t (c_ck hb (by decide) (by omega))]
  have h1 := two_lt hb (a + k)
  have h2 := inv_lt (ckN_lt hb k a 0 (by decide))
  unfold fX4_isCheckRight_L22 ckR
  by_cases e : two f (a + k) = ckN f a k 0 ^^^ 65535
  · rw [brc_t (by rw [e]), if_pos e, grd_t (by (first | exact Or.inl rfl | exact Or.inr rfl | assumption | (simp (disch := omega) only [z_le, z_lt, z_eq, vp_in_iff, z_nI, ix_nI, Int32.reduceToInt, ix0, ix1, ix2, ix3] <;> omega)))]
  · rw [brc_f (fun q => e ((nI_eq (by omega) (by omega)).mp q)), if_neg e, grd_t (by (first | exact Or.inl rfl | exact Or.inr rfl | assumption | (simp (disch := omega) only [z_le, z_lt, z_eq, vp_in_iff, z_nI, ix_nI, Int32.reduceToInt, ix0, ix1, ix2, ix3] <;> omega)))]
theorem m_right {N : Nat} {f : Nat → Int32} (hb : byt f) (hN : N < 5000) {a k : Nat} (h : a + k + 2 ≤ N) : fX10_isRight N f (nI a) (nI (a + k)) = some (ckR f a k) := by
  unfold fX10_isRight
  rw [bnd_t (m_ck hb hN (by omega)), nI_1, grd_t (by (first | exact Or.inl rfl | exact Or.inr rfl | assumption | (simp (disch := omega) only [z_le, z_lt, z_eq, vp_in_iff, z_nI, ix_nI, Int32.reduceToInt, ix0, ix1, ix2, ix3] <;> omega))), grd_t (by (first | exact Or.inl rfl | exact Or.inr rfl | assumption | (simp (disch := omega) only [z_le, z_lt, z_eq, vp_in_iff, z_nI, ix_nI, Int32.reduceToInt, ix0, ix1, ix2, ix3] <;> omega))), ix_nI (by omega), ix_nI (by omega)]
  have h2 := inv_lt (ckN_lt hb k a 0 (by decide))
  unfold fX10_isRight_L34 fX10_isRight_L35 ckR two
  generalize ckN f a k 0 ^^^ 65535 = c at h2 ⊢
  have b1 := byt_ix hb (a + k)
  have b2 := byt_ix hb (a + k + 1)
  rw [pk_andN (by omega) 8 (by decide), pk_shrN (by omega) _ 8 (by decide)]
  by_cases e1 : ix (f (a + k)) = c % 2 ^ 8
  · rw [brc_t (by rw [b1.2, e1])]
    by_cases e2 : ix (f (a + k + 1)) = c / 2 ^ 8
    · rw [brc_t (by rw [b2.2, e2]), if_pos (by omega), grd_t (by (first | exact Or.inl rfl | exact Or.inr rfl | assumption | (simp (disch := omega) only [z_le, z_lt, z_eq, vp_in_iff, z_nI, ix_nI, Int32.reduceToInt, ix0, ix1, ix2, ix3] <;> omega)))]
    · rw [brc_f (fun q => e2 ((nI_eq (by omega) (by omega)).mp (by rw [← b2.2]; exact q))), if_neg (by omega), grd_t (by (first | exact Or.inl rfl | exact Or.inr rfl | assumption | (simp (disch := omega) only [z_le, z_lt, z_eq, vp_in_iff, z_nI, ix_nI, Int32.reduceToInt, ix0, ix1, ix2, ix3] <;> omega)))]
  · rw [brc_f (fun q => e1 ((nI_eq (by omega) (by omega)).mp (by rw [← b1.2]; exact q))), if_neg (by omega), grd_t (by (first | exact Or.inl rfl | exact Or.inr rfl | assumption | (simp (disch := omega) only [z_le, z_lt, z_eq, vp_in_iff, z_nI, ix_nI, Int32.reduceToInt, ix0, ix1, ix2, ix3] <;> omega)))]
