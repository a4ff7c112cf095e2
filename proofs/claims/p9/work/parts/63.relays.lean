/-! relays, on both sides -/
def rSel (sl st : Int32) (cs : Nat → Int32) (ms mq mt : Int32) (mf : Nat → Int32) : Prop :=
  (sl = 0 ∧ ms = -1) ∨ (∃ n : Nat, 6 ≤ n ∧ n ≤ 102 ∧ sl = nI n ∧ ms = nI n ∧ st = mt ∧ mq = (cs 0 &&& 15) ∧ ∀ i, 2 ≤ i → i < n → cs i = mf i)
theorem q16 : ∀ b : Nat, b < 16 → ((nI b + 1) - (nI b + 1) / 16 * 16) = ((nI b + 1) &&& 15) := by decide +kernel
theorem seq16 (x : Int32) : (((x &&& 15) + 1) - ((x &&& 15) + 1) / 16 * 16) = ((x + 1) &&& 15) := by
  have h0 : 0 ≤ (x &&& 15).toInt ∧ (x &&& 15).toInt < 16 := by rw [z_and15]; omega
  have e := q16 (ix (x &&& 15)) (by rw [z_ix]; omega)
  rw [← z_of h0.1] at e
  rw [e, z_eq, z_and15, z_and15, Int32.toInt_add, Int32.toInt_add, z_bm, z_bm, z_and15]
  have := z_rng x
  simp only [Int32.reduceToInt]
  omega
theorem m_gaveup {tmo tk x1 x2 ac as ms mq mt fl : Int32} {f ans rl se : Nat → Int32} {n k p : Nat} : fX10_command_L136 tmo tk f (p + 1) x1 x2 (nI n) 0 (nI k) ac as ms mq mt fl ans rl se = fX10_command_L207 tmo tk f x1 x2 (nI n) 2 ac as ms mq mt fl ans rl se := by
  rw [fX10_command_L136_s]
  unfold fX10_command_L177
  by_cases h : nI n ≤ nI k
  · rw [brc_t h, brc_t rfl]
  · rw [brc_f h, brc_t rfl, brc_t rfl]
theorem r_stand_loop {tmo tk st sl x1 x2 ac as ms mq mt fl : Int32} {p cs f ans rl se : Nat → Int32} {n : Nat} (hn : n ≤ 102) (hst : st = mt) (hp : ∀ i, i < n → p i = f i) (hc : ∀ i, 2 ≤ i → i < n → cs i = se i) : ∀ (i a b k : Nat), k + i = n → 2 ≤ k → ∃ sd : Int32, fX8_standingOf_L45 249 tmo sl st cs p (a + i + 1) (nI n) tk (nI k) = some sd ∧ fX10_command_L136 tmo tk f (b + i + 1) x1 x2 (nI n) 1 (nI k) ac as ms mq mt fl ans rl se = fX10_command_L207 tmo tk f x1 x2 (nI n) sd ac as ms mq mt fl ans rl se := by
  intro i
  induction i with
  | zero =>
    intro a b k hk h2
    have hk : k = n := hk
    subst hk
    rw [fX8_standingOf_L45_s, fX10_command_L136_s]
    unfold fX8_standingOf_L91 fX10_command_L177
    have hkk : nI k ≤ nI k := nI_le (Nat.le_refl _) (by omega)
    rw [brc_t hkk, brc_t hkk, brc_f (show ¬ (1 : Int32) = 0 by decide), hst]
    by_cases h : (tk - mt) ≤ tmo
    · exact ⟨0, by rw [brc_t h], by rw [brc_t h]⟩
    · exact ⟨1, by rw [brc_f h], by rw [brc_f h]⟩
  | succ i ih =>
    intro a b k hk h2
    rw [show a + (i + 1) + 1 = (a + i + 1) + 1 by omega, show b + (i + 1) + 1 = (b + i + 1) + 1 by omega, fX8_standingOf_L45_s, fX10_command_L136_s]
    unfold fX10_command_L169
    have hnk : ¬ nI n ≤ nI k := nI_ge (by omega) (by omega)
    rw [brc_f hnk, brc_f hnk, brc_f (show ¬ (1 : Int32) = 0 by decide), grd_t (show vp_in (nI k) 249 from vp_in_nI (by omega) (by decide)), grd_t (show vp_in (nI k) 102 from vp_in_nI (by omega) (by decide)), grd_t (show vp_in (nI k) 260 from vp_in_nI (by omega) (by decide)), grd_t (show vp_in (nI k) 600 from vp_in_nI (by omega) (by decide)), ix_nI (by omega), hp k (by omega), hc k h2 (by omega), nI_1]
    by_cases h : f k = se k
    · obtain ⟨sd, g1, g2⟩ := ih a b (k + 1) (by omega) (by omega)
      refine ⟨sd, ?_, ?_⟩
      · rw [brc_t h]; exact g1
      · rw [brc_t h.symm]; exact g2
    · refine ⟨2, ?_, ?_⟩
      · rw [brc_f h]
      · rw [brc_f (fun q => h q.symm)]
        exact m_gaveup (p := b + i)
theorem r_stand {tmo tk st sl x2 ac as ms mq mt fl : Int32} {p cs f ans rl se : Nat → Int32} {n : Nat} (hn : n ≤ 102) (h18 : 18 ≤ n) (hp : ∀ i, i < n → p i = f i) (hx : x2 = (f 0 &&& 15)) (hs : rSel sl st cs ms mq mt se) : ∃ sd : Int32, fX8_standingOf 249 tmo sl st cs p (nI n) tk = some sd ∧ brc (ms = nI n) (brc (((mq + (1 : Int32)) - (mq + (1 : Int32)) / (16 : Int32) * (16 : Int32)) = x2) (fX10_command_L131 tmo tk f 4 x2 (nI n) 1 ac as ms mq mt fl ans rl se) (fX10_command_L130 tmo tk f 4 x2 (nI n) ac as ms mq mt fl ans rl se)) (fX10_command_L130 tmo tk f 4 x2 (nI n) ac as ms mq mt fl ans rl se) = fX10_command_L207 tmo tk f 4 x2 (nI n) sd ac as ms mq mt fl ans rl se := by
  unfold fX8_standingOf fX8_standingOf_L25 fX8_standingOf_L40
  rw [grd_t (show vp_in 0 249 from vp_in_nI (n := 0) (by decide) (by decide)), ix0, hp 0 (by omega)]
  have no : fX10_command_L130 tmo tk f 4 x2 (nI n) ac as ms mq mt fl ans rl se = fX10_command_L207 tmo tk f 4 x2 (nI n) 2 ac as ms mq mt fl ans rl se := by
    unfold fX10_command_L130 fX10_command_L131
    exact m_gaveup (k := 2) (p := 4999)
  rcases hs with ⟨rfl, rfl⟩ | ⟨m, hm6, hm, rfl, rfl, hst, hmq, hc⟩
  · refine ⟨2, ?_, ?_⟩
    · have hz : ¬ (0 : Int32) = nI n := fun q => nI_ne0 (by omega) (by omega) q.symm
      by_cases h : (f 0 &&& 15) = ((cs 0 + 1) &&& 15)
      · rw [brc_t h, brc_f hz]
      · rw [brc_f h, brc_f hz]
    · rw [brc_f (fun q => by
        have e := congrArg Int32.toInt q
        rw [z_nI (by omega), show (-1 : Int32).toInt = -1 from rfl] at e
        omega), no]
  · by_cases hmn : m = n
    · subst hmn
      subst hmq
      rw [brc_t (show nI m = nI m from rfl), brc_t (show nI m = nI m from rfl), brc_t (show nI m = nI m from rfl), seq16, hx]
      by_cases h : (f 0 &&& 15) = ((cs 0 + 1) &&& 15)
      · rw [brc_t h, brc_t h.symm, brc_f (show ¬ (1 : Int32) = 0 by decide)]
        obtain ⟨sd, g1, g2⟩ := r_stand_loop (tmo := tmo) (tk := tk) (sl := nI m) (x1 := 4) (x2 := f 0 &&& 15) (ac := ac) (as := as) (ms := nI m) (mq := cs 0 &&& 15) (fl := fl) (ans := ans) (rl := rl) hn hst hp hc (m - 2) (4999 - (m - 2)) (4999 - (m - 2)) 2 (by omega) (Nat.le_refl _)
        rw [show 4999 - (m - 2) + (m - 2) + 1 = FU by unfold FU; omega] at g1 g2
        exact ⟨sd, g1, g2⟩
      · rw [brc_f h, brc_t (show (0 : Int32) = 0 from rfl), brc_f (fun q => h q.symm)]
        rw [hx] at no
        exact ⟨2, rfl, no⟩
    · have hz : ¬ nI m = nI n := fun q => hmn ((nI_eq (by omega) (by omega)).mp q)
      refine ⟨2, ?_, ?_⟩
      · by_cases h : (f 0 &&& 15) = ((cs 0 + 1) &&& 15)
        · rw [brc_t h, brc_f hz]
        · rw [brc_f h, brc_f hz]
      · rw [brc_f hz, no]
theorem c_range {p : Nat → Int32} {a : Nat} : ∀ (j q k al : Nat) (row : Nat → Int32), k + j = a → a ≤ 249 → al + j ≤ 250 → ok (fX0_putRange_L3 249 p (q + j + 1) (nI a) (nI k) (nI al) row) (fun o => o.1 = nI (al + j)) := by
  intro j
  induction j with
  | zero =>
    intro q k al row hk ha hl
    have hk : k = a := hk
    subst hk
    rw [fX0_putRange_L3_s, brc_t (by (first | exact Or.inl rfl | exact Or.inr rfl | assumption | (simp (disch := omega) only [z_le, z_lt, z_eq, vp_in_iff, z_nI, ix_nI, Int32.reduceToInt, ix0, ix1, ix2, ix3] <;> omega)))]
    exact ok_some rfl
  | succ j ih =>
    intro q k al row hk ha hl
    rw [show q + (j + 1) + 1 = (q + j + 1) + 1 by omega, fX0_putRange_L3_s, brc_f (by (first | exact Or.inl rfl | exact Or.inr rfl | assumption | (simp (disch := omega) only [z_le, z_lt, z_eq, vp_in_iff, z_nI, ix_nI, Int32.reduceToInt, ix0, ix1, ix2, ix3] <;> omega))), grd_t (by (first | exact Or.inl rfl | exact Or.inr rfl | assumption | (simp (disch := omega) only [z_le, z_lt, z_eq, vp_in_iff, z_nI, ix_nI, Int32.reduceToInt, ix0, ix1, ix2, ix3] <;> omega)))]
    refine ok_bnd (c_put0 (by omega)) (fun u hu => ?_)
    rw [hu, nI_1]
    refine ok_mono (ih q (k + 1) (al + 1) u.2 (by omega) ha (by omega)) (fun o ho => ?_)
    rw [ho, show al + 1 + j = al + (j + 1) by omega]
theorem c_range1 {p row : Nat → Int32} {k a al : Nat} (hk : k ≤ a) (ha : a ≤ 249) (hl : al + (a - k) ≤ 250) : ok (fX0_putRange 249 p (nI k) (nI a) (nI al) row) (fun o => o.1 = nI (al + (a - k))) := by
  unfold fX0_putRange
  have e := c_range (p := p) (a := a) (a - k) (4999 - (a - k)) k al row (by omega) ha hl
  rw [show 4999 - (a - k) + (a - k) + 1 = FU by unfold FU; omega] at e
  exact e
theorem m_adds {tmo tk x1 x2 x5 x6 ac ms mq mt fl : Int32} {f rl se : Nat → Int32} {n : Nat} (hn : n ≤ 249) : ∀ (j p k s : Nat) (ans : Nat → Int32), k + j = n → s + j ≤ 255 → ∃ ans', fX10_command_L220 tmo tk f (p + j + 1) x1 x2 (nI n) x5 x6 (nI k) ac (nI s) ms mq mt fl ans rl se = fX10_command_L246 tmo tk f FU x1 x2 (nI n) x5 x6 0 ac (nI (s + j)) ms mq mt fl ans' rl se := by
  intro j
  induction j with
  | zero =>
    intro p k s ans hk hs
    have hk : k = n := hk
    subst hk
    rw [fX10_command_L220_s, brc_t (by (first | exact Or.inl rfl | exact Or.inr rfl | assumption | (simp (disch := omega) only [z_le, z_lt, z_eq, vp_in_iff, z_nI, ix_nI, Int32.reduceToInt, ix0, ix1, ix2, ix3] <;> omega)))]
    exact ⟨ans, rfl⟩
  | succ j ih =>
    intro p k s ans hk hs
    rw [show p + (j + 1) + 1 = (p + j + 1) + 1 by omega, fX10_command_L220_s, brc_f (by (first | exact Or.inl rfl | exact Or.inr rfl | assumption | (simp (disch := omega) only [z_le, z_lt, z_eq, vp_in_iff, z_nI, ix_nI, Int32.reduceToInt, ix0, ix1, ix2, ix3] <;> omega))), grd_t (by (first | exact Or.inl rfl | exact Or.inr rfl | assumption | (simp (disch := omega) only [z_le, z_lt, z_eq, vp_in_iff, z_nI, ix_nI, Int32.reduceToInt, ix0, ix1, ix2, ix3] <;> omega)))]
    obtain ⟨u, e, hu⟩ := m_add0 (x := f (ix (nI k))) (s := s) (an := ans) (by omega)
    obtain ⟨ans', e'⟩ := ih p (k + 1) (s + 1) u.2 (by omega) (by omega)
    refine ⟨ans', ?_⟩
    rw [bnd_t e, hu, nI_1, e', show s + 1 + j = s + (j + 1) by omega]
theorem m_keep {tmo tk ac as ms mq mt fl : Int32} {f ans rl se : Nat → Int32} {n : Nat} (hn : n ≤ 249) : ∀ (j p k : Nat), k + j = n → fX10_command_L411 tmo tk f (p + j + 1) (nI n) (nI k) ac as ms mq mt fl ans rl (va_cpy f se 0 0 k) = some (ac, as, ms, mq, mt, fl, ans, rl, va_cpy f se 0 0 n) := by
  intro j
  induction j with
  | zero =>
    intro p k hk
    have hk : k = n := hk
    subst hk
    rw [fX10_command_L411_s, brc_t (by (first | exact Or.inl rfl | exact Or.inr rfl | assumption | (simp (disch := omega) only [z_le, z_lt, z_eq, vp_in_iff, z_nI, ix_nI, Int32.reduceToInt, ix0, ix1, ix2, ix3] <;> omega)))]
    rfl
  | succ j ih =>
    intro p k hk
    rw [show p + (j + 1) + 1 = (p + j + 1) + 1 by omega, fX10_command_L411_s, brc_f (by (first | exact Or.inl rfl | exact Or.inr rfl | assumption | (simp (disch := omega) only [z_le, z_lt, z_eq, vp_in_iff, z_nI, ix_nI, Int32.reduceToInt, ix0, ix1, ix2, ix3] <;> omega))), grd_t (by (first | exact Or.inl rfl | exact Or.inr rfl | assumption | (simp (disch := omega) only [z_le, z_lt, z_eq, vp_in_iff, z_nI, ix_nI, Int32.reduceToInt, ix0, ix1, ix2, ix3] <;> omega))), grd_t (by (first | exact Or.inl rfl | exact Or.inr rfl | assumption | (simp (disch := omega) only [z_le, z_lt, z_eq, vp_in_iff, z_nI, ix_nI, Int32.reduceToInt, ix0, ix1, ix2, ix3] <;> omega))), nI_1, ix_nI (by omega)]
    have e := cpy_step (f := f) (g := se) (sp := 0) (dp := 0) (k := k)
    rw [Nat.zero_add] at e
    rw [e]
    exact ih p (k + 1) (by omega)
theorem m_keep1 {tmo tk ac as ms mq mt fl : Int32} {f ans rl se : Nat → Int32} {n : Nat} (hn : n ≤ 249) : fX10_command_L411 tmo tk f FU (nI n) 0 ac as ms mq mt fl ans rl se = some (ac, as, ms, mq, mt, fl, ans, rl, va_cpy f se 0 0 n) := by
  have e := m_keep (tmo := tmo) (tk := tk) (ac := ac) (as := as) (ms := ms) (mq := mq) (mt := mt) (fl := fl) (f := f) (ans := ans) (rl := rl) (se := se) hn n (4999 - n) 0 (by omega)
  rw [show 4999 - n + n + 1 = FU by unfold FU; omega, cpy_0] at e
  exact e
