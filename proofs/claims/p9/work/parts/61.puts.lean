/-! what an answer holds: how many bytes -/
def rLen (s : Nat) (a b : Int32) : Prop := ∃ s', s ≤ s' ∧ s' ≤ 249 ∧ a = nI (s' + 1) ∧ b = nI s'
def bol (f : Nat → Int32) : Prop := ∀ i, isB (f i)
theorem rLen_rf {s : Nat} (h : s ≤ 249) : rLen s (nI (s + 1)) (nI s) := ⟨s, Nat.le_refl _, h, rfl, rfl⟩
theorem rLen_le {s s1 : Nat} {a b : Int32} (h : rLen s1 a b) (hs : s ≤ s1) : rLen s a b := by
  obtain ⟨s', h1, h2, h3, h4⟩ := h
  exact ⟨s', by omega, h2, h3, h4⟩
theorem c_put0 {x : Int32} {al : Nat} {row : Nat → Int32} (h : al < 250) : ok (fX0_put x (nI al) row) (fun o => o.1 = nI (al + 1)) := by
  unfold fX0_put fX0_put_L36
  rw [brc_f (by (first | exact Or.inl rfl | exact Or.inr rfl | assumption | (simp (disch := omega) only [z_le, z_lt, z_eq, vp_in_iff, z_nI, ix_nI, Int32.reduceToInt, ix0, ix1, ix2, ix3] <;> omega))), nI_1]
  exact ok_grd (vp_in_nI h (by decide)) (ok_some rfl)
theorem m_add0 {x : Int32} {s : Nat} {an : Nat → Int32} (h : s < 260) : ok (fX10_add x (nI s) an) (fun o => o.1 = nI (s + 1)) := by
  unfold fX10_add
  rw [nI_1]
  exact ok_grd (vp_in_nI h (by decide)) (ok_some rfl)
theorem c_room_t {al n : Nat} (h : al + n ≤ 250) : fX0_hasRoom (nI al) (nI n) = some 1 := by
  unfold fX0_hasRoom fX0_hasRoom_L19
  rw [nI_add, brc_f (by (first | exact Or.inl rfl | exact Or.inr rfl | assumption | (simp (disch := omega) only [z_le, z_lt, z_eq, vp_in_iff, z_nI, ix_nI, Int32.reduceToInt, ix0, ix1, ix2, ix3] <;> omega))), grd_t (by (first | exact Or.inl rfl | exact Or.inr rfl | assumption | (simp (disch := omega) only [z_le, z_lt, z_eq, vp_in_iff, z_nI, ix_nI, Int32.reduceToInt, ix0, ix1, ix2, ix3] <;> omega)))]
theorem c_room_f {al n : Nat} (h : ¬ al + n ≤ 250) (h2 : al + n < 1000) : fX0_hasRoom (nI al) (nI n) = some 0 := by
  unfold fX0_hasRoom fX0_hasRoom_L19
  rw [nI_add, brc_t (by (first | exact Or.inl rfl | exact Or.inr rfl | assumption | (simp (disch := omega) only [z_le, z_lt, z_eq, vp_in_iff, z_nI, ix_nI, Int32.reduceToInt, ix0, ix1, ix2, ix3] <;> omega))), grd_t (by (first | exact Or.inl rfl | exact Or.inr rfl | assumption | (simp (disch := omega) only [z_le, z_lt, z_eq, vp_in_iff, z_nI, ix_nI, Int32.reduceToInt, ix0, ix1, ix2, ix3] <;> omega)))]
theorem m_room_t {s n : Nat} (h : s + n ≤ 249) : fX10_hasRoom (nI s) (nI n) = some 1 := by
  unfold fX10_hasRoom fX10_hasRoom_L17
  rw [nI_add, brc_f (by (first | exact Or.inl rfl | exact Or.inr rfl | assumption | (simp (disch := omega) only [z_le, z_lt, z_eq, vp_in_iff, z_nI, ix_nI, Int32.reduceToInt, ix0, ix1, ix2, ix3] <;> omega))), grd_t (by (first | exact Or.inl rfl | exact Or.inr rfl | assumption | (simp (disch := omega) only [z_le, z_lt, z_eq, vp_in_iff, z_nI, ix_nI, Int32.reduceToInt, ix0, ix1, ix2, ix3] <;> omega)))]
theorem m_room_f {s n : Nat} (h : ¬ s + n ≤ 249) (h2 : s + n < 1000) : fX10_hasRoom (nI s) (nI n) = some 0 := by
  unfold fX10_hasRoom fX10_hasRoom_L17
  rw [nI_add, brc_t (by (first | exact Or.inl rfl | exact Or.inr rfl | assumption | (simp (disch := omega) only [z_le, z_lt, z_eq, vp_in_iff, z_nI, ix_nI, Int32.reduceToInt, ix0, ix1, ix2, ix3] <;> omega))), grd_t (by (first | exact Or.inl rfl | exact Or.inr rfl | assumption | (simp (disch := omega) only [z_le, z_lt, z_eq, vp_in_iff, z_nI, ix_nI, Int32.reduceToInt, ix0, ix1, ix2, ix3] <;> omega)))]
theorem c_shead {x : Int32} {al : Nat} {row : Nat → Int32} (h : al + 5 ≤ 250) : ok (fX0_putStaticHead x (nI al) row) (fun o => o.1 = nI (al + 5)) := by
  unfold fX0_putStaticHead
  refine ok_bnd (c_put0 (by omega)) (fun u1 h1 => ?_)
  rw [h1]
  refine ok_bnd (c_put0 (by omega)) (fun u2 h2 => ?_)
  rw [h2]
  refine ok_bnd (c_put0 (by omega)) (fun u3 h3 => ?_)
  rw [h3]
  refine ok_bnd (c_put0 (by omega)) (fun u4 h4 => ?_)
  rw [h4]
  refine ok_bnd (c_put0 (by omega)) (fun u5 h5 => ok_some ?_)
  exact h5
theorem c_isOn {on : Nat → Int32} {k : Nat} (hb : bol on) (h : k < 16) : fX7_isOn on (nI k) = some (on k) := by
  unfold fX7_isOn
  rw [ix_nI (by omega), grd_t (by (first | exact Or.inl rfl | exact Or.inr rfl | assumption | (simp (disch := omega) only [z_le, z_lt, z_eq, vp_in_iff, z_nI, ix_nI, Int32.reduceToInt, ix0, ix1, ix2, ix3] <;> omega))), grd_t (hb k)]
theorem c_bin_loop {on : Nat → Int32} {wb : Int32} (hb : bol on) : ∀ (j p k al : Nat) (row : Nat → Int32), k + j = 16 → al + j ≤ 250 → ok (fX0_putBinaries_L29 on (p + j + 1) (nI k) (nI al) wb row) (fun o => o.1 = nI (al + j) ∧ o.2.1 = wb) := by
  intro j
  induction j with
  | zero =>
    intro p k al row hk ha
    have hk : k = 16 := hk
    subst hk
    rw [fX0_putBinaries_L29_s, brc_t (by (first | exact Or.inl rfl | exact Or.inr rfl | assumption | (simp (disch := omega) only [z_le, z_lt, z_eq, vp_in_iff, z_nI, ix_nI, Int32.reduceToInt, ix0, ix1, ix2, ix3] <;> omega)))]
    exact ok_some ⟨rfl, rfl⟩
  | succ j ih =>
    intro p k al row hk ha
    rw [show p + (j + 1) + 1 = (p + j + 1) + 1 by omega, fX0_putBinaries_L29_s, brc_f (by (first | exact Or.inl rfl | exact Or.inr rfl | assumption | (simp (disch := omega) only [z_le, z_lt, z_eq, vp_in_iff, z_nI, ix_nI, Int32.reduceToInt, ix0, ix1, ix2, ix3] <;> omega))), bnd_t (c_isOn hb (by omega))]
    have key : ∀ s0, ok (fX0_putBinaries_L49 on (fX0_putBinaries_L29 on (p + j + 1)) (nI k) s0 (nI al) wb row) (fun o => o.1 = nI (al + (j + 1)) ∧ o.2.1 = wb) := by
      intro s0
      unfold fX0_putBinaries_L49 fX0_binaryByte fX0_binaryByte_L11
      have k2 : ∀ y : Int32, ok (bnd (fX0_put y (nI al) row) (fun u2 => (fX0_putBinaries_L29 on (p + j + 1)) (nI k + 1) u2.1 wb u2.2)) (fun o => o.1 = nI (al + (j + 1)) ∧ o.2.1 = wb) := by
        intro y
        refine ok_bnd (c_put0 (by omega)) (fun u2 h2 => ?_)
        rw [h2, nI_1]
        refine ok_mono (ih p (k + 1) (al + 1) u2.2 (by omega) (by omega)) (fun o ho => ?_)
        rw [ho.1, show al + 1 + j = al + (j + 1) by omega]
        exact ⟨rfl, ho.2⟩
      by_cases h : s0 = 0
      · rw [brc_t h, bnd_t rfl]
        exact k2 _
      · rw [brc_f h, bnd_t rfl]
        exact k2 _
    exact ok_brc (fun _ => key _) (fun _ => key _)
theorem m_bin_loop {bi : Nat → Int32} {hb : Int32} : ∀ (j p k s : Nat) (an : Nat → Int32), k + j = 16 → s + j ≤ 249 → ok (fX10_putBinaries_L49 bi (p + j + 1) (nI k) (nI s) hb an) (fun o => o.1 = nI (s + j) ∧ o.2.1 = hb) := by
  intro j
  induction j with
  | zero =>
    intro p k s an hk ha
    have hk : k = 16 := hk
    subst hk
    rw [fX10_putBinaries_L49_s, brc_t (by (first | exact Or.inl rfl | exact Or.inr rfl | assumption | (simp (disch := omega) only [z_le, z_lt, z_eq, vp_in_iff, z_nI, ix_nI, Int32.reduceToInt, ix0, ix1, ix2, ix3] <;> omega)))]
    exact ok_some ⟨rfl, rfl⟩
  | succ j ih =>
    intro p k s an hk ha
    rw [show p + (j + 1) + 1 = (p + j + 1) + 1 by omega, fX10_putBinaries_L49_s, brc_f (by (first | exact Or.inl rfl | exact Or.inr rfl | assumption | (simp (disch := omega) only [z_le, z_lt, z_eq, vp_in_iff, z_nI, ix_nI, Int32.reduceToInt, ix0, ix1, ix2, ix3] <;> omega))), grd_t (by (first | exact Or.inl rfl | exact Or.inr rfl | assumption | (simp (disch := omega) only [z_le, z_lt, z_eq, vp_in_iff, z_nI, ix_nI, Int32.reduceToInt, ix0, ix1, ix2, ix3] <;> omega)))]
    have key : ∀ s0, ok (fX10_putBinaries_L72 bi (fX10_putBinaries_L49 bi (p + j + 1)) (nI k) s0 (nI s) hb an) (fun o => o.1 = nI (s + (j + 1)) ∧ o.2.1 = hb) := by
      intro s0
      unfold fX10_putBinaries_L72
      refine ok_bnd (m_add0 (by omega)) (fun u2 h2 => ?_)
      rw [h2, nI_1]
      refine ok_mono (ih p (k + 1) (s + 1) u2.2 (by omega) (by omega)) (fun o ho => ?_)
      rw [ho.1, show s + 1 + j = s + (j + 1) by omega]
      exact ⟨rfl, ho.2⟩
    exact ok_brc (fun _ => key _) (fun _ => key _)
theorem r_putB {on row bi an : Nat → Int32} {wb : Int32} {s : Nat} (hs : s ≤ 249) (hw : isB wb) (hb : bol on) : ok2 (fX0_putBinaries on (nI (s + 1)) wb row) (fX10_putBinaries bi (nI s) wb an) (fun o o' => rLen s o.1 o'.1 ∧ o.2.1 = o'.2.1 ∧ isB o.2.1) := by
  unfold fX0_putBinaries fX0_putBinaries_L16 fX10_putBinaries fX10_putBinaries_L81
  by_cases h0 : wb = 0
  · rw [brc_t h0, brc_t h0]
    by_cases hr : s + 21 ≤ 249
    · have e1 : fX0_hasRoom (nI (s + 1)) 21 = some 1 := c_room_t (n := 21) (by omega)
      have e2 : fX10_hasRoom (nI s) 21 = some 1 := m_room_t (n := 21) hr
      rw [bnd_t e1, bnd_t e2, brc_f (by decide), brc_f (by decide)]
      refine ok2_of (P := fun o => o.1 = nI (s + 21 + 1) ∧ o.2.1 = 1) (Q := fun o => o.1 = nI (s + 21) ∧ o.2.1 = 1) ?_ ?_ (fun x y hx hy => ⟨⟨s + 21, by omega, hr, hx.1, hy.1⟩, by rw [hx.2, hy.2], by rw [hx.2]; exact Or.inr rfl⟩)
      · refine ok_bnd (c_shead (by omega)) (fun u hu => ?_)
        rw [hu]
        have e := c_bin_loop (wb := 1) hb 16 4983 0 (s + 1 + 5) u.2 rfl (by omega)
        refine ok_mono e (fun o ho => ⟨?_, ho.2⟩)
        rw [ho.1]
      · refine ok_bnd (m_add0 (by omega)) (fun u1 h1 => ?_)
        rw [h1]
        refine ok_bnd (m_add0 (by omega)) (fun u2 h2 => ?_)
        rw [h2]
        refine ok_bnd (m_add0 (by omega)) (fun u3 h3 => ?_)
        rw [h3]
        refine ok_bnd (m_add0 (by omega)) (fun u4 h4 => ?_)
        rw [h4]
        refine ok_bnd (m_add0 (by omega)) (fun u5 h5 => ?_)
        rw [h5]
        have e := m_bin_loop (bi := bi) (hb := 1) 16 4983 0 (s + 1 + 1 + 1 + 1 + 1) u5.2 rfl (by omega)
        refine ok_mono e (fun o ho => ⟨?_, ho.2⟩)
        rw [ho.1]
    · have e1 : fX0_hasRoom (nI (s + 1)) 21 = some 0 := c_room_f (n := 21) (by omega) (by omega)
      have e2 : fX10_hasRoom (nI s) 21 = some 0 := m_room_f (n := 21) hr (by omega)
      rw [bnd_t e1, bnd_t e2, brc_t rfl, brc_t rfl]
      exact ok2_ss ⟨rLen_rf hs, rfl, hw⟩
  · rw [brc_f h0, brc_f h0]
    exact ok2_ss ⟨rLen_rf hs, rfl, hw⟩
theorem c_val {va : Nat → Int32} {k : Nat} (h : k < 16) : fX7_valueOf va (nI k) = some (va k) := by
  unfold fX7_valueOf
  rw [ix_nI (by omega), grd_t (by (first | exact Or.inl rfl | exact Or.inr rfl | assumption | (simp (disch := omega) only [z_le, z_lt, z_eq, vp_in_iff, z_nI, ix_nI, Int32.reduceToInt, ix0, ix1, ix2, ix3] <;> omega)))]
theorem c_ana_loop {va : Nat → Int32} {wa : Int32} : ∀ (j p k al : Nat) (row : Nat → Int32), k + j = 16 → al + 3 * j ≤ 250 → ok (fX0_putAnalogs_L30 va (p + j + 1) (nI k) (nI al) wa row) (fun o => o.1 = nI (al + 3 * j) ∧ o.2.1 = wa) := by
  intro j
  induction j with
  | zero =>
    intro p k al row hk ha
    have hk : k = 16 := hk
    subst hk
    rw [fX0_putAnalogs_L30_s, brc_t (by (first | exact Or.inl rfl | exact Or.inr rfl | assumption | (simp (disch := omega) only [z_le, z_lt, z_eq, vp_in_iff, z_nI, ix_nI, Int32.reduceToInt, ix0, ix1, ix2, ix3] <;> omega)))]
    exact ok_some ⟨rfl, rfl⟩
  | succ j ih =>
    intro p k al row hk ha
    rw [show p + (j + 1) + 1 = (p + j + 1) + 1 by omega, fX0_putAnalogs_L30_s, brc_f (by (first | exact Or.inl rfl | exact Or.inr rfl | assumption | (simp (disch := omega) only [z_le, z_lt, z_eq, vp_in_iff, z_nI, ix_nI, Int32.reduceToInt, ix0, ix1, ix2, ix3] <;> omega)))]
    refine ok_bnd (c_put0 (by omega)) (fun u1 h1 => ?_)
    rw [h1, bnd_t (c_val (by omega))]
    refine ok_bnd (c_put0 (by omega)) (fun u3 h3 => ?_)
    rw [h3, bnd_t (c_val (by omega))]
    refine ok_bnd (c_put0 (by omega)) (fun u5 h5 => ?_)
    rw [h5, nI_1]
    refine ok_mono (ih p (k + 1) (al + 1 + 1 + 1) u5.2 (by omega) (by omega)) (fun o ho => ?_)
    rw [ho.1, show al + 1 + 1 + 1 + 3 * j = al + 3 * (j + 1) by omega]
    exact ⟨rfl, ho.2⟩
theorem m_ana_loop {va : Nat → Int32} {wa : Int32} : ∀ (j p k s : Nat) (an : Nat → Int32), k + j = 16 → s + 3 * j ≤ 249 → ok (fX10_putAnalogs_L50 va (p + j + 1) (nI k) (nI s) wa an) (fun o => o.1 = nI (s + 3 * j) ∧ o.2.1 = wa) := by
  intro j
  induction j with
  | zero =>
    intro p k al row hk ha
    have hk : k = 16 := hk
    subst hk
    rw [fX10_putAnalogs_L50_s, brc_t (by (first | exact Or.inl rfl | exact Or.inr rfl | assumption | (simp (disch := omega) only [z_le, z_lt, z_eq, vp_in_iff, z_nI, ix_nI, Int32.reduceToInt, ix0, ix1, ix2, ix3] <;> omega)))]
    exact ok_some ⟨rfl, rfl⟩
  | succ j ih =>
    intro p k s an hk ha
    have hv : vp_in (nI k) 16 := vp_in_nI (by omega) (by decide)
    rw [show p + (j + 1) + 1 = (p + j + 1) + 1 by omega, fX10_putAnalogs_L50_s, brc_f (by (first | exact Or.inl rfl | exact Or.inr rfl | assumption | (simp (disch := omega) only [z_le, z_lt, z_eq, vp_in_iff, z_nI, ix_nI, Int32.reduceToInt, ix0, ix1, ix2, ix3] <;> omega)))]
    refine ok_bnd (m_add0 (by omega)) (fun u1 h1 => ok_grd hv ?_)
    rw [h1]
    refine ok_bnd (m_add0 (by omega)) (fun u3 h3 => ok_grd hv ?_)
    rw [h3]
    refine ok_bnd (m_add0 (by omega)) (fun u5 h5 => ?_)
    rw [h5, nI_1]
    refine ok_mono (ih p (k + 1) (s + 1 + 1 + 1) u5.2 (by omega) (by omega)) (fun o ho => ?_)
    rw [ho.1, show s + 1 + 1 + 1 + 3 * j = s + 3 * (j + 1) by omega]
    exact ⟨rfl, ho.2⟩
theorem r_putA {va row vb an : Nat → Int32} {wa : Int32} {s : Nat} (hs : s ≤ 249) (hw : isB wa) : ok2 (fX0_putAnalogs va (nI (s + 1)) wa row) (fX10_putAnalogs vb (nI s) wa an) (fun o o' => rLen s o.1 o'.1 ∧ o.2.1 = o'.2.1 ∧ isB o.2.1) := by
  unfold fX0_putAnalogs fX0_putAnalogs_L16 fX10_putAnalogs fX10_putAnalogs_L90
  by_cases h0 : wa = 0
  · rw [brc_t h0, brc_t h0]
    by_cases hr : s + 53 ≤ 249
    · have e1 : fX0_hasRoom (nI (s + 1)) 53 = some 1 := c_room_t (n := 53) (by omega)
      have e2 : fX10_hasRoom (nI s) 53 = some 1 := m_room_t (n := 53) hr
      rw [bnd_t e1, bnd_t e2, brc_f (by decide), brc_f (by decide)]
      refine ok2_of (P := fun o => o.1 = nI (s + 53 + 1) ∧ o.2.1 = 1) (Q := fun o => o.1 = nI (s + 53) ∧ o.2.1 = 1) ?_ ?_ (fun x y hx hy => ⟨⟨s + 53, by omega, hr, hx.1, hy.1⟩, by rw [hx.2, hy.2], by rw [hx.2]; exact Or.inr rfl⟩)
      · refine ok_bnd (c_shead (by omega)) (fun u hu => ?_)
        rw [hu]
        have e := c_ana_loop (va := va) (wa := 1) 16 4983 0 (s + 1 + 5) u.2 rfl (by omega)
        refine ok_mono e (fun o ho => ⟨?_, ho.2⟩)
        rw [ho.1]
      · refine ok_bnd (m_add0 (by omega)) (fun u1 h1 => ?_)
        rw [h1]
        refine ok_bnd (m_add0 (by omega)) (fun u2 h2 => ?_)
        rw [h2]
        refine ok_bnd (m_add0 (by omega)) (fun u3 h3 => ?_)
        rw [h3]
        refine ok_bnd (m_add0 (by omega)) (fun u4 h4 => ?_)
        rw [h4]
        refine ok_bnd (m_add0 (by omega)) (fun u5 h5 => ?_)
        rw [h5]
        have e := m_ana_loop (va := vb) (wa := 1) 16 4983 0 (s + 1 + 1 + 1 + 1 + 1) u5.2 rfl (by omega)
        refine ok_mono e (fun o ho => ⟨?_, ho.2⟩)
        rw [ho.1]
    · have e1 : fX0_hasRoom (nI (s + 1)) 53 = some 0 := c_room_f (n := 53) (by omega) (by omega)
      have e2 : fX10_hasRoom (nI s) 53 = some 0 := m_room_f (n := 53) hr (by omega)
      rw [bnd_t e1, bnd_t e2, brc_t rfl, brc_t rfl]
      exact ok2_ss ⟨rLen_rf hs, rfl, hw⟩
  · rw [brc_f h0, brc_f h0]
    exact ok2_ss ⟨rLen_rf hs, rfl, hw⟩
/-! the events of a class -/
theorem c_ehead {x : Int32} {al : Nat} {row : Nat → Int32} (h : al + 4 ≤ 250) : ok (fX0_putEventHead x (nI al) row) (fun o => o.1 = nI (al + 4)) := by
  unfold fX0_putEventHead fX0_putEventHead_L11 fX0_putEventHead_L24
  have k2 : ∀ (y : Int32) (r : Nat → Int32), ok (bnd (fX0_put y (nI (al + 1)) r) (fun u1 => bnd (fX0_put 23 u1.1 u1.2) (fun u2 => bnd (fX0_put 0 u2.1 u2.2) (fun u3 => some (u3.1, u3.2))))) (fun o => o.1 = nI (al + 4)) := by
    intro y r
    refine ok_bnd (c_put0 (by omega)) (fun u1 h1 => ?_)
    rw [h1]
    refine ok_bnd (c_put0 (by omega)) (fun u2 h2 => ?_)
    rw [h2]
    refine ok_bnd (c_put0 (by omega)) (fun u3 h3 => ok_some ?_)
    exact h3
  have k1 : ∀ y : Int32, ok (bnd (fX0_put y (nI al) row) (fun u1 => brc (x = 0) (bnd (fX0_put 1 u1.1 u1.2) (fun u1 => bnd (fX0_put 23 u1.1 u1.2) (fun u2 => bnd (fX0_put 0 u2.1 u2.2) (fun u3 => some (u3.1, u3.2))))) (bnd (fX0_put 2 u1.1 u1.2) (fun u1 => bnd (fX0_put 23 u1.1 u1.2) (fun u2 => bnd (fX0_put 0 u2.1 u2.2) (fun u3 => some (u3.1, u3.2))))))) (fun o => o.1 = nI (al + 4)) := by
    intro y
    refine ok_bnd (c_put0 (by omega)) (fun u1 h1 => ?_)
    rw [h1]
    exact ok_brc (fun _ => k2 _ _) (fun _ => k2 _ _)
  exact ok_brc (fun _ => k1 _) (fun _ => k1 _)
def evB (k : Int32) : Nat := if k = 0 then 2 else 4
theorem c_event {x n v : Int32} {al : Nat} {row : Nat → Int32} (h : al + evB x ≤ 250) : ok (fX0_putEvent x n v (nI al) row) (fun o => o.1 = nI (al + evB x)) := by
  unfold fX0_putEvent fX0_putEvent_L38
  unfold evB at h ⊢
  by_cases hx : x = 0
  · rw [if_pos hx] at h ⊢
    refine ok_bnd (c_put0 (by omega)) (fun u1 h1 => ?_)
    rw [brc_t hx, h1]
    unfold fX0_binaryByte fX0_binaryByte_L11
    have k2 : ∀ y : Int32, ok (bnd (fX0_put y (nI (al + 1)) u1.2) (fun u6 => some (u6.1, u6.2))) (fun o => o.1 = nI (al + 2)) := by
      intro y
      refine ok_bnd (c_put0 (by omega)) (fun u6 h6 => ok_some ?_)
      exact h6
    by_cases hv : v = 0
    · rw [brc_t hv, bnd_t rfl]
      exact k2 _
    · rw [brc_f hv, bnd_t rfl]
      exact k2 _
  · rw [if_neg hx] at h ⊢
    refine ok_bnd (c_put0 (by omega)) (fun u1 h1 => ?_)
    rw [brc_f hx, h1]
    refine ok_bnd (c_put0 (by omega)) (fun u2 h2 => ?_)
    rw [h2]
    refine ok_bnd (c_put0 (by omega)) (fun u3 h3 => ?_)
    rw [h3]
    refine ok_bnd (c_put0 (by omega)) (fun u4 h4 => ok_some ?_)
    exact h4
