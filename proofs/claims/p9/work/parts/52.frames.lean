/-! frames -/
def drp (f : Nat → Int32) (n len : Nat) : Nat → Int32 := va_cpy f f n 0 (len - n)
theorem byt_drp {f : Nat → Int32} {n len : Nat} (h : byt f) : byt (drp f n len) := byt_cpy h h
theorem c_drop {n len : Nat} {f : Nat → Int32} (h : n ≤ len) (hl : len ≤ 311) : fX4_drop (nI n) (nI len) f = some (nI (len - n), drp f n len) := by
  unfold fX4_drop drp
  rw [pk_sub h, grd_t (by (first | exact Or.inl rfl | exact Or.inr rfl | assumption | (simp (disch := omega) only [z_le, z_lt, z_eq, vp_in_iff, z_nI, ix_nI, Int32.reduceToInt, ix0, ix1, ix2, ix3] <;> omega))), ix_nI (by omega), ix_nI (by omega), ix0]
theorem cpy_step {f g : Nat → Int32} {sp dp k : Nat} : upd (va_cpy f g sp dp k) (dp + k) (f (sp + k)) = va_cpy f g sp dp (k + 1) := by
  funext j
  by_cases e : j = dp + k
  · rw [e, pk_us, pk_cpy_in (by omega) (by omega)]
    congr 1
    omega
  · rw [pk_un e]
    by_cases h : dp ≤ j ∧ j < dp + k
    · rw [pk_cpy_in h.1 h.2, pk_cpy_in h.1 (by omega)]
    · rw [pk_cpy_out (by omega), pk_cpy_out (by omega)]
theorem cpy_0 {f g : Nat → Int32} {sp dp : Nat} : va_cpy f g sp dp 0 = g := by
  funext j
  rw [pk_cpy_out (by omega)]
theorem m_drop_loop {f : Nat → Int32} {n : Nat} : ∀ (j m k : Nat), n + k + j ≤ 400 → fX10_drop_L12 (m + j + 1) (nI n) (nI k) (nI (k + j)) (va_cpy f f n 0 k) = some (nI (k + j), va_cpy f f n 0 (k + j)) := by
  intro j
  induction j with
  | zero =>
    intro m k h
    rw [fX10_drop_L12_s, brc_t (by (first | exact Or.inl rfl | exact Or.inr rfl | assumption | (simp (disch := omega) only [z_le, z_lt, z_eq, vp_in_iff, z_nI, ix_nI, Int32.reduceToInt, ix0, ix1, ix2, ix3] <;> omega)))]
    rfl
  | succ j ih =>
    intro m k h
    rw [show m + (j + 1) + 1 = (m + j + 1) + 1 by omega, fX10_drop_L12_s, brc_f (by (first | exact Or.inl rfl | exact Or.inr rfl | assumption | (simp (disch := omega) only [z_le, z_lt, z_eq, vp_in_iff, z_nI, ix_nI, Int32.reduceToInt, ix0, ix1, ix2, ix3] <;> omega))), nI_add, grd_t (by (first | exact Or.inl rfl | exact Or.inr rfl | assumption | (simp (disch := omega) only [z_le, z_lt, z_eq, vp_in_iff, z_nI, ix_nI, Int32.reduceToInt, ix0, ix1, ix2, ix3] <;> omega))), grd_t (by (first | exact Or.inl rfl | exact Or.inr rfl | assumption | (simp (disch := omega) only [z_le, z_lt, z_eq, vp_in_iff, z_nI, ix_nI, Int32.reduceToInt, ix0, ix1, ix2, ix3] <;> omega))), ix_nI (by omega), ix_nI (by omega), nI_1, pk_cpy_out (f := f) (j := k + n) (by omega)]
    have e := cpy_step (f := f) (g := f) (sp := n) (dp := 0) (k := k)
    rw [Nat.zero_add] at e
    rw [show k + n = n + k by omega, e, show k + (j + 1) = (k + 1) + j by omega]
    exact ih m (k + 1) (by omega)
theorem m_drop {n len : Nat} {f : Nat → Int32} (h : n ≤ len) (hl : len ≤ 400) : fX10_drop (nI n) (nI len) f = some (nI (len - n), drp f n len) := by
  unfold fX10_drop drp
  have e := m_drop_loop (f := f) (n := n) (len - n) (4999 - (len - n)) 0 (by omega)
  rw [show 4999 - (len - n) + (len - n) + 1 = FU by unfold FU; omega, Nat.zero_add, cpy_0] at e
  rw [pk_sub h]
  exact e
/-! a frame's data -/
def blkE (many s : Nat) : Nat := if many - s < 16 then many - s else 16
theorem blkE_le (many s : Nat) : blkE many s ≤ 16 := by unfold blkE; split <;> omega
theorem blkE_le2 (many s : Nat) : blkE many s ≤ many - s := by unfold blkE; split <;> omega
theorem blkE_16 {many s : Nat} (h : s + 16 ≤ many) : blkE many s = 16 := by unfold blkE; split <;> omega
theorem blkE_lt {many s : Nat} (h : many ≤ s + 16) : blkE many s = many - s := by unfold blkE; split <;> omega
def cdat (f : Nat → Int32) (many : Nat) : Nat → Nat → Nat → Int32 → (Nat → Int32) → Int32 × (Nat → Int32)
  | 0, _, _, r, d => (r, d)
  | j + 1, s, a, r, d => cdat f many j (s + 16) (a + blkE many s + 2) (if r = 0 then 0 else ckR f a (blkE many s)) (va_cpy f d a s (blkE many s))
theorem cdat_b {f : Nat → Int32} {many : Nat} (hb : byt f) : ∀ (j s a : Nat) (r : Int32) (d : Nat → Int32), isB r → byt d → isB (cdat f many j s a r d).1 ∧ byt (cdat f many j s a r d).2 := by
  intro j
  induction j with
  | zero => intro s a r d h h1; exact ⟨h, h1⟩
  | succ j ih =>
    intro s a r d h h1
    unfold cdat
    refine ih _ _ _ _ ?_ (byt_cpy hb h1)
    split
    · exact Or.inl rfl
    · exact ckR_b _ _ _
theorem blk_if {a : Nat} (h : a < 1000) : (if nI a < (16 : Int32) then nI a else (16 : Int32)) = nI (if a < 16 then a else 16) := by
  by_cases e : a < 16
  · rw [if_pos e, if_pos (by (first | exact Or.inl rfl | exact Or.inr rfl | assumption | (simp (disch := omega) only [z_le, z_lt, z_eq, vp_in_iff, z_nI, ix_nI, Int32.reduceToInt, ix0, ix1, ix2, ix3] <;> omega)))]
  · rw [if_neg e, if_neg (by (first | exact Or.inl rfl | exact Or.inr rfl | assumption | (simp (disch := omega) only [z_le, z_lt, z_eq, vp_in_iff, z_nI, ix_nI, Int32.reduceToInt, ix0, ix1, ix2, ix3] <;> omega)))]
    rfl
theorem c_copy_loop {f : Nat → Int32} (hb : byt f) {many : Nat} (hm : many ≤ 250) {dl : Int32} : ∀ (j m q a : Nat) (r : Int32) (d : Nat → Int32), isB r → q + j = (many + 15) / 16 → (j = 0 ∨ a = 10 + 18 * q) → fX4_copyData_L13 f (m + j + 1) (nI many) r (nI a) (nI (16 * q)) dl d = some ((cdat f many j (16 * q) a r d).1, dl, (cdat f many j (16 * q) a r d).2) := by
  intro j
  induction j with
  | zero =>
    intro m q a r d hr hq ha
    rw [fX4_copyData_L13_s, brc_t (by (first | exact Or.inl rfl | exact Or.inr rfl | assumption | (simp (disch := omega) only [z_le, z_lt, z_eq, vp_in_iff, z_nI, ix_nI, Int32.reduceToInt, ix0, ix1, ix2, ix3] <;> omega))), grd_t hr]
    rfl
  | succ j ih =>
    intro m q a r d hr hq ha
    have ha : a = 10 + 18 * q := by omega
    have he : (if many - 16 * q < 16 then many - 16 * q else 16) = blkE many (16 * q) := rfl
    have h1 := blkE_le many (16 * q)
    have h2 := blkE_le2 many (16 * q)
    have hj : j = 0 ∨ a + blkE many (16 * q) + 2 = 10 + 18 * (q + 1) := by
      rcases Nat.eq_zero_or_pos j with h | h
      · exact Or.inl h
      · right; rw [blkE_16 (by omega)]; omega
    have ih' := fun r' d' hr' => ih m (q + 1) (a + blkE many (16 * q) + 2) r' d' hr' (by omega) hj
    rw [show m + (j + 1) + 1 = (m + j + 1) + 1 by omega, fX4_copyData_L13_s, brc_f (by (first | exact Or.inl rfl | exact Or.inr rfl | assumption | (simp (disch := omega) only [z_le, z_lt, z_eq, vp_in_iff, z_nI, ix_nI, Int32.reduceToInt, ix0, ix1, ix2, ix3] <;> omega))), pk_sub (by omega), blk_if (by omega), he]
    rw [grd_t (by (first | exact Or.inl rfl | exact Or.inr rfl | assumption | (simp (disch := omega) only [z_le, z_lt, z_eq, vp_in_iff, z_nI, ix_nI, Int32.reduceToInt, ix0, ix1, ix2, ix3] <;> omega))), ix_nI (by omega), ix_nI (by omega), ix_nI (by omega)]
    unfold fX4_copyData_L66 fX4_copyData_L67
    rw [nI_add, c_right hb (by omega), show (2 : Int32) = nI 2 from rfl, show (16 : Int32) = nI 16 from rfl, nI_add, nI_add, nI_add, show a + (blkE many (16 * q) + 2) = a + blkE many (16 * q) + 2 by omega, show 16 * q + 16 = 16 * (q + 1) by omega]
    unfold cdat
    rw [show 16 * q + 16 = 16 * (q + 1) by omega]
    by_cases h0 : r = 0
    · rw [brc_t h0, if_pos h0]
      exact ih' 0 _ (Or.inl rfl)
    · rw [brc_f h0, if_neg h0, bnd_t rfl]
      rcases ckR_b f a (blkE many (16 * q)) with h3 | h3
      · rw [h3, brc_t rfl]
        exact ih' 0 _ (Or.inl rfl)
      · rw [h3, brc_f (by decide)]
        exact ih' 1 _ (Or.inr rfl)
/-- the data's number, the frame's length -/
def mny (f : Nat → Int32) : Nat := ix (f 2) - 5
def whl (f : Nat → Int32) : Nat := 10 + mny f + 2 * ((mny f + 15) / 16)
theorem mny_le {f : Nat → Int32} (hb : byt f) : mny f ≤ 250 := by
  unfold mny
  have := byt_ix hb 2
  omega
theorem whl_le {f : Nat → Int32} (hb : byt f) : whl f ≤ 292 ∧ 10 ≤ whl f := by
  have := mny_le hb
  unfold whl
  omega
def fdat (f d : Nat → Int32) : Int32 × (Nat → Int32) := cdat f (mny f) ((mny f + 15) / 16) 0 10 1 d
theorem mny_nI {f : Nat → Int32} (hb : byt f) (h : 5 ≤ ix (f 2)) : f 2 - 5 = nI (mny f) := by
  unfold mny
  have h2 := byt_ix hb 2
  rw [h2.2, show (5 : Int32) = nI 5 from rfl, ix_nI (by omega), pk_sub h]
theorem c_copy {f d : Nat → Int32} {dl : Int32} (hb : byt f) : fX4_copyData f (nI (mny f)) dl d = some ((fdat f d).1, nI (mny f), (fdat f d).2) := by
  unfold fX4_copyData fdat
  have h := mny_le hb
  have e := c_copy_loop hb h (dl := nI (mny f)) ((mny f + 15) / 16) (4999 - (mny f + 15) / 16) 0 10 1 d (Or.inr rfl) (by omega) (Or.inr rfl)
  rw [show 4999 - (mny f + 15) / 16 + (mny f + 15) / 16 + 1 = FU by unfold FU; omega] at e
  exact e
theorem frl {n : Nat} (h : n ≤ 1000) : fX9_frameLength (nI n) = some (nI (10 + n + 2 * ((n + 15) / 16))) := by
  unfold fX9_frameLength
  rw [show (16 : Int32) = nI 16 from rfl, show (10 : Int32) = nI 10 from rfl, show (1 : Int32) = nI 1 from rfl, show (2 : Int32) = nI 2 from rfl, nI_add, nI_add, pk_sub (by omega), pk_div (by omega) (by decide) (by decide), pk_mul, nI_add, show n + 16 - 1 = n + 15 by omega]
/-- whether a frame is for us -/
def ours (a m : Int32) (f : Nat → Int32) : Prop := nI (two f 4) = a ∧ nI (two f 6) = m ∧ 192 ≤ ix (f 3)
noncomputable def kd (a m : Int32) (f : Nat → Int32) (r : Int32) : Int32 := @ite _ (r = 0) (Classical.propDecidable _) 1 (@ite _ (ours a m f) (Classical.propDecidable _) 3 2)
theorem b192 : ∀ b : Nat, b < 256 → (((nI b &&& 192) = 192) ↔ 192 ≤ b) := by decide +kernel
theorem byt192 {f : Nat → Int32} (hb : byt f) (i : Nat) : (f i &&& 192) = 192 ↔ 192 ≤ ix (f i) := by
  have h := byt_ix hb i
  have e := b192 (ix (f i)) h.1
  rw [← h.2] at e
  exact e
theorem c_take67 {a m ct r s0 : Int32} {len : Nat} {f d : Nat → Int32} (hb : byt f) (hl : len ≤ 311) (hw : whl f ≤ len) : fX4_takeFrame_L67 a m r s0 (nI len) (nI (mny f)) ct d f = some (@ite _ (r = 0) (Classical.propDecidable _) 1 (@ite _ (s0 = 0) (Classical.propDecidable _) 2 3), nI (len - whl f), nI (mny f), ct, d, drp f (whl f) len) := by
  unfold fX4_takeFrame_L67 fX4_takeFrame_L94
  have hm := mny_le hb
  rw [bnd_t (frl (by omega)), show 10 + mny f + 2 * ((mny f + 15) / 16) = whl f from rfl, bnd_t (c_drop hw hl)]
  by_cases hr : r = 0
  · rw [brc_t hr, if_pos hr]
  · rw [brc_f hr, if_neg hr]
    by_cases hs : s0 = 0
    · rw [brc_t hs, if_pos hs]
    · rw [brc_f hs, if_neg hs]
theorem c_take {a m dl ct : Int32} {len : Nat} {f d : Nat → Int32} (hb : byt f) (h5 : 5 ≤ ix (f 2)) (hl : len ≤ 311) (hw : whl f ≤ len) : fX4_takeFrame a m (nI len) dl ct d f = some (kd a m f (fdat f d).1, nI (len - whl f), nI (mny f), f 3, (fdat f d).2, drp f (whl f) len) := by
  unfold fX4_takeFrame fX4_takeFrame_L66
  have e4 : fX4_twoAt f (4 : Int32) = some (nI (two f 4)) := c_two (a := 4) hb (by decide)
  have e6 : fX4_twoAt f (6 : Int32) = some (nI (two f 6)) := c_two (a := 6) hb (by decide)
  rw [ix2, ix3, mny_nI hb h5, bnd_t (c_copy hb), bnd_t e4, bnd_t e6]
  dsimp only
  rw [c_take67 hb hl hw, c_take67 hb hl hw]
  unfold kd
  by_cases h1 : nI (two f 4) = a
  · rw [brc_t h1]
    by_cases h2 : nI (two f 6) = m
    · rw [brc_t h2]
      by_cases h3 : (f 3 &&& 192) = 192
      · rw [brc_t h3, if_pos (show ours a m f from ⟨h1, h2, (byt192 hb 3).mp h3⟩), if_neg (show ¬ (1 : Int32) = 0 by decide)]
      · rw [brc_f h3, if_neg (fun q : ours a m f => h3 ((byt192 hb 3).mpr q.2.2)), if_pos (show (0 : Int32) = 0 from rfl)]
    · rw [brc_f h2, if_neg (fun q : ours a m f => h2 q.2.1), if_pos (show (0 : Int32) = 0 from rfl)]
  · rw [brc_f h1, if_neg (fun q : ours a m f => h1 q.1), if_pos (show (0 : Int32) = 0 from rfl)]
