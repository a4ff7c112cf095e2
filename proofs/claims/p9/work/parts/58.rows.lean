/-! the events of one class, on both sides -/
def rEv (c n : Nat) (an ki nu va ev : Nat → Int32) : Prop := ∀ k, k < n → ki k = ev (160 * c + 4 * k) ∧ nu k = ev (160 * c + 4 * k + 1) ∧ va k = ev (160 * c + 4 * k + 2) ∧ an k = ev (160 * c + 4 * k + 3) ∧ isB (an k) ∧ isB (ki k)
def same (c : Nat) (ev ev' : Nat → Int32) : Prop := ∀ x, x < 160 * c ∨ 160 * c + 160 ≤ x → ev' x = ev x
theorem rEv_other {c c' n : Nat} {an ki nu va ev ev' : Nat → Int32} (h : rEv c n an ki nu va ev) (hs : same c' ev ev') (hc : c ≠ c') (hn : n ≤ 40) : rEv c n an ki nu va ev' := by
  intro k hk
  obtain ⟨h1, h2, h3, h4, h5⟩ := h k hk
  refine ⟨?_, ?_, ?_, ?_, h5⟩
  · rw [hs _ (by omega)]; exact h1
  · rw [hs _ (by omega)]; exact h2
  · rw [hs _ (by omega)]; exact h3
  · rw [hs _ (by omega)]; exact h4
theorem rEv_less {c n n' : Nat} {an ki nu va ev : Nat → Int32} (h : rEv c n an ki nu va ev) (hn : n' ≤ n) : rEv c n' an ki nu va ev := fun k hk => h k (by omega)
/-! unmarking -/
def unk (an : Nat → Int32) (n : Nat) : Nat → Int32 := fun i => if i < n then 0 else an i
theorem c_unm_loop {N n : Nat} (hn : n ≤ N) (hN : N ≤ 40) : ∀ (j p k : Nat) (an : Nat → Int32), k + j = n → fX2_unmarkAll_L2 N (nI n) (p + j + 1) (nI k) (unk an k) = some (unk an n) := by
  intro j
  induction j with
  | zero =>
    intro p k an hk
    have hk : k = n := hk
    subst hk
    rw [fX2_unmarkAll_L2_s, brc_t (by (first | exact Or.inl rfl | exact Or.inr rfl | assumption | (simp (disch := omega) only [z_le, z_lt, z_eq, vp_in_iff, z_nI, ix_nI, Int32.reduceToInt, ix0, ix1, ix2, ix3] <;> omega)))]
  | succ j ih =>
    intro p k an hk
    rw [show p + (j + 1) + 1 = (p + j + 1) + 1 by omega, fX2_unmarkAll_L2_s, brc_f (by (first | exact Or.inl rfl | exact Or.inr rfl | assumption | (simp (disch := omega) only [z_le, z_lt, z_eq, vp_in_iff, z_nI, ix_nI, Int32.reduceToInt, ix0, ix1, ix2, ix3] <;> omega))), grd_t (by (first | exact Or.inl rfl | exact Or.inr rfl | assumption | (simp (disch := omega) only [z_le, z_lt, z_eq, vp_in_iff, z_nI, ix_nI, Int32.reduceToInt, ix0, ix1, ix2, ix3] <;> omega))), nI_1, ix_nI (by omega)]
    have e : upd (unk an k) k 0 = unk an (k + 1) := by
      funext i
      unfold upd unk
      by_cases h : i = k
      · rw [if_pos h, if_pos (by omega)]
      · rw [if_neg h]
        by_cases h2 : i < k
        · rw [if_pos h2, if_pos (by omega)]
        · rw [if_neg h2, if_neg (by omega)]
    rw [e]
    exact ih p (k + 1) an (by omega)
theorem unk_0 (an : Nat → Int32) : unk an 0 = an := by
  funext i
  unfold unk
  rw [if_neg (by omega)]
theorem c_unm {N n : Nat} {an : Nat → Int32} (hn : n ≤ N) (hN : N ≤ 40) : fX2_unmarkAll N (nI n) an = some (unk an n) := by
  unfold fX2_unmarkAll
  have e := c_unm_loop hn hN n (4999 - n) 0 an (by omega)
  rw [show 4999 - n + n + 1 = FU by unfold FU; omega, unk_0] at e
  exact e
def unm (ev : Nat → Int32) (q : Nat) : Nat → Int32 := fun i => if i % 4 = 3 ∧ i < 4 * q then 0 else ev i
theorem m_unm_loop {ev : Nat → Int32} : ∀ (j p q : Nat), q + j = 160 → fX10_unmark_L2 (p + j + 1) (nI (4 * q + 3)) (unm ev q) = some (unm ev 160) := by
  intro j
  induction j with
  | zero =>
    intro p q hq
    have hq : q = 160 := hq
    subst hq
    rw [fX10_unmark_L2_s, brc_t (by (first | exact Or.inl rfl | exact Or.inr rfl | assumption | (simp (disch := omega) only [z_le, z_lt, z_eq, vp_in_iff, z_nI, ix_nI, Int32.reduceToInt, ix0, ix1, ix2, ix3] <;> omega)))]
  | succ j ih =>
    intro p q hq
    rw [show p + (j + 1) + 1 = (p + j + 1) + 1 by omega, fX10_unmark_L2_s, brc_f (by (first | exact Or.inl rfl | exact Or.inr rfl | assumption | (simp (disch := omega) only [z_le, z_lt, z_eq, vp_in_iff, z_nI, ix_nI, Int32.reduceToInt, ix0, ix1, ix2, ix3] <;> omega))), grd_t (by (first | exact Or.inl rfl | exact Or.inr rfl | assumption | (simp (disch := omega) only [z_le, z_lt, z_eq, vp_in_iff, z_nI, ix_nI, Int32.reduceToInt, ix0, ix1, ix2, ix3] <;> omega))), show (4 : Int32) = nI 4 from rfl, nI_add, ix_nI (by omega)]
    have e : upd (unm ev q) (4 * q + 3) 0 = unm ev (q + 1) := by
      funext i
      unfold upd unm
      by_cases h : i = 4 * q + 3
      · rw [if_pos h, if_pos (by omega)]
      · rw [if_neg h]
        by_cases h2 : i % 4 = 3 ∧ i < 4 * q
        · rw [if_pos h2, if_pos (by omega)]
        · rw [if_neg h2, if_neg (by omega)]
    rw [e, show 4 * q + 3 + 4 = 4 * (q + 1) + 3 by omega]
    exact ih p (q + 1) (by omega)
theorem m_unm (ev : Nat → Int32) : fX10_unmark ev = some (unm ev 160) := by
  unfold fX10_unmark
  have e := m_unm_loop (ev := ev) 160 4839 0 rfl
  have e0 : unm ev 0 = ev := by
    funext i
    unfold unm
    rw [if_neg (by omega)]
  rw [e0] at e
  exact e
theorem rEv_unm {c n : Nat} {an ki nu va ev : Nat → Int32} (h : rEv c n an ki nu va ev) (hn : n ≤ 40) (hc : c ≤ 3) : rEv c n (unk an n) ki nu va (unm ev 160) := by
  intro k hk
  obtain ⟨h1, h2, h3, h4, h5, h6⟩ := h k hk
  have e : ∀ x, ¬ x % 4 = 3 → unm ev 160 x = ev x := fun x hx => if_neg (fun q => hx q.1)
  have e3 : unm ev 160 (160 * c + 4 * k + 3) = 0 := if_pos ⟨by omega, by omega⟩
  have e4 : unk an n k = 0 := if_pos hk
  refine ⟨?_, ?_, ?_, ?_, ?_, h6⟩
  · rw [e _ (by omega)]; exact h1
  · rw [e _ (by omega)]; exact h2
  · rw [e _ (by omega)]; exact h3
  · rw [e3, e4]
  · rw [e4]; exact Or.inl rfl
/-! moving -/
theorem c_move {N k j : Nat} {an ki nu va : Nat → Int32} (hk : k < N) (hj : j < N) (hN : N ≤ 40) (hb : isB (an k)) : fX2_move N (nI k) (nI j) an ki nu va = some (upd an j (an k), upd ki j (ki k), upd nu j (nu k), upd va j (va k)) := by
  unfold fX2_move
  have h1 : vp_in (nI k) N := vp_in_nI hk (by omega)
  have h2 : vp_in (nI j) N := vp_in_nI hj (by omega)
  rw [ix_nI (by omega), ix_nI (by omega), grd_t h1, grd_t h2, grd_t h1, grd_t h2, grd_t h1, grd_t h2, grd_t h1, grd_t h2, grd_t hb]
theorem m_place (c k : Nat) : fX10_place (nI c) (nI k) = some (nI (160 * c + 4 * k)) := by
  unfold fX10_place
  rw [show (160 : Int32) = nI 160 from rfl, show (4 : Int32) = nI 4 from rfl, pk_mul, pk_mul, nI_add]
theorem m_copy_loop {c k j : Nat} {ev : Nat → Int32} (hc : c ≤ 3) (hk : k < 40) (hj : j ≤ k) : ∀ (i p t : Nat), t + i = 4 → fX10_copy_L3 (p + i + 1) (nI c) (nI k) (nI j) (nI t) (va_cpy ev ev (160 * c + 4 * k) (160 * c + 4 * j) t) = some (va_cpy ev ev (160 * c + 4 * k) (160 * c + 4 * j) 4) := by
  intro i
  induction i with
  | zero =>
    intro p t ht
    have ht : t = 4 := ht
    subst ht
    rw [fX10_copy_L3_s, brc_t (by (first | exact Or.inl rfl | exact Or.inr rfl | assumption | (simp (disch := omega) only [z_le, z_lt, z_eq, vp_in_iff, z_nI, ix_nI, Int32.reduceToInt, ix0, ix1, ix2, ix3] <;> omega)))]
  | succ i ih =>
    intro p t ht
    rw [show p + (i + 1) + 1 = (p + i + 1) + 1 by omega, fX10_copy_L3_s, brc_f (by (first | exact Or.inl rfl | exact Or.inr rfl | assumption | (simp (disch := omega) only [z_le, z_lt, z_eq, vp_in_iff, z_nI, ix_nI, Int32.reduceToInt, ix0, ix1, ix2, ix3] <;> omega))), bnd_t (m_place c j), bnd_t (m_place c k), nI_add, nI_add, grd_t (by (first | exact Or.inl rfl | exact Or.inr rfl | assumption | (simp (disch := omega) only [z_le, z_lt, z_eq, vp_in_iff, z_nI, ix_nI, Int32.reduceToInt, ix0, ix1, ix2, ix3] <;> omega))), grd_t (by (first | exact Or.inl rfl | exact Or.inr rfl | assumption | (simp (disch := omega) only [z_le, z_lt, z_eq, vp_in_iff, z_nI, ix_nI, Int32.reduceToInt, ix0, ix1, ix2, ix3] <;> omega))), nI_1, ix_nI (by omega), ix_nI (by omega), pk_cpy_out (f := ev) (j := 160 * c + 4 * k + t) (by omega), cpy_step]
    exact ih p (t + 1) (by omega)
theorem m_copy {c k j : Nat} {ev : Nat → Int32} (hc : c ≤ 3) (hk : k < 40) (hj : j ≤ k) : fX10_copy (nI c) (nI k) (nI j) ev = some (va_cpy ev ev (160 * c + 4 * k) (160 * c + 4 * j) 4) := by
  unfold fX10_copy
  have e := m_copy_loop (ev := ev) hc hk hj 4 4995 0 rfl
  rw [cpy_0] at e
  exact e
theorem rEv_move {c n k j : Nat} {an ki nu va ev : Nat → Int32} (h : rEv c n an ki nu va ev) (hk : k < n) (hj : j < n) : rEv c n (upd an j (an k)) (upd ki j (ki k)) (upd nu j (nu k)) (upd va j (va k)) (va_cpy ev ev (160 * c + 4 * k) (160 * c + 4 * j) 4) := by
  intro x hx
  by_cases e : x = j
  · subst e
    obtain ⟨h1, h2, h3, h4, h5, h6⟩ := h k hk
    rw [pk_us, pk_us, pk_us, pk_us, pk_cpy_in (by omega) (by omega), pk_cpy_in (by omega) (by omega), pk_cpy_in (by omega) (by omega), pk_cpy_in (by omega) (by omega)]
    refine ⟨?_, ?_, ?_, ?_, h5, h6⟩
    · rw [show 160 * c + 4 * k + (160 * c + 4 * x - (160 * c + 4 * x)) = 160 * c + 4 * k by omega]; exact h1
    · rw [show 160 * c + 4 * k + (160 * c + 4 * x + 1 - (160 * c + 4 * x)) = 160 * c + 4 * k + 1 by omega]; exact h2
    · rw [show 160 * c + 4 * k + (160 * c + 4 * x + 2 - (160 * c + 4 * x)) = 160 * c + 4 * k + 2 by omega]; exact h3
    · rw [show 160 * c + 4 * k + (160 * c + 4 * x + 3 - (160 * c + 4 * x)) = 160 * c + 4 * k + 3 by omega]; exact h4
  · rw [pk_un e, pk_un e, pk_un e, pk_un e, pk_cpy_out (by omega), pk_cpy_out (by omega), pk_cpy_out (by omega), pk_cpy_out (by omega)]
    exact h x hx
theorem same_move {c k j : Nat} {ev : Nat → Int32} (hj : j < 40) : same c ev (va_cpy ev ev (160 * c + 4 * k) (160 * c + 4 * j) 4) := fun x hx => pk_cpy_out (by omega)
theorem same_rf {c : Nat} {ev : Nat → Int32} : same c ev ev := fun _ _ => rfl
theorem same_tr {c : Nat} {e1 e2 e3 : Nat → Int32} (h : same c e1 e2) (h' : same c e2 e3) : same c e1 e3 := fun x hx => (h' x hx).trans (h x hx)
/-! what is answered goes -/
theorem r_gone {N n c : Nat} {lo wa : Int32} {ec : Nat → Int32} {kk : Int32 → Int32 → Int32 → (Nat → Int32) → (Nat → Int32) → Option (Int32 × Int32 × (Nat → Int32) × (Nat → Int32))} (hn : n ≤ N) (hN : N ≤ 40) (hc : c ≤ 3) (hec : ec c = nI n) : ∀ (i p k j : Nat) (an ki nu va ev : Nat → Int32), k + i = n → j ≤ k → rEv c n an ki nu va ev →
    ∃ j' an' ki' nu' va' ev', j' ≤ n ∧ fX2_removeAnswered_L4 N (p + i + 1) (nI j) (nI k) (nI n) an ki nu va = some (nI j', an', ki', nu', va') ∧ (∀ p', fX10_confirm_L20 kk (p' + i + 1) (nI c) (nI j) (nI k) lo wa ec ev = kk (nI (c + 1)) lo wa (upd ec c (nI j')) ev') ∧ rEv c n an' ki' nu' va' ev' ∧ same c ev ev' := by
  intro i
  induction i with
  | zero =>
    intro p k j an ki nu va ev hk hj hr
    have hk : k = n := hk
    subst hk
    refine ⟨j, an, ki, nu, va, ev, hj, ?_, fun p' => ?_, hr, same_rf⟩
    · rw [fX2_removeAnswered_L4_s, brc_t (by (first | exact Or.inl rfl | exact Or.inr rfl | assumption | (simp (disch := omega) only [z_le, z_lt, z_eq, vp_in_iff, z_nI, ix_nI, Int32.reduceToInt, ix0, ix1, ix2, ix3] <;> omega)))]
    · rw [fX10_confirm_L20_s, grd_t (by (first | exact Or.inl rfl | exact Or.inr rfl | assumption | (simp (disch := omega) only [z_le, z_lt, z_eq, vp_in_iff, z_nI, ix_nI, Int32.reduceToInt, ix0, ix1, ix2, ix3] <;> omega))), ix_nI (by omega), hec, brc_t (by (first | exact Or.inl rfl | exact Or.inr rfl | assumption | (simp (disch := omega) only [z_le, z_lt, z_eq, vp_in_iff, z_nI, ix_nI, Int32.reduceToInt, ix0, ix1, ix2, ix3] <;> omega))), grd_t (by (first | exact Or.inl rfl | exact Or.inr rfl | assumption | (simp (disch := omega) only [z_le, z_lt, z_eq, vp_in_iff, z_nI, ix_nI, Int32.reduceToInt, ix0, ix1, ix2, ix3] <;> omega))), nI_1]
  | succ i ih =>
    intro p k j an ki nu va ev hk hj hr
    have hrk := hr k (by omega)
    rw [show p + (i + 1) + 1 = (p + i + 1) + 1 by omega, fX2_removeAnswered_L4_s, brc_f (by (first | exact Or.inl rfl | exact Or.inr rfl | assumption | (simp (disch := omega) only [z_le, z_lt, z_eq, vp_in_iff, z_nI, ix_nI, Int32.reduceToInt, ix0, ix1, ix2, ix3] <;> omega))), grd_t (by (first | exact Or.inl rfl | exact Or.inr rfl | assumption | (simp (disch := omega) only [z_le, z_lt, z_eq, vp_in_iff, z_nI, ix_nI, Int32.reduceToInt, ix0, ix1, ix2, ix3] <;> omega))), ix_nI (by omega)]
    unfold fX2_removeAnswered_L30
    by_cases h0 : an k = 0
    · obtain ⟨j', an', ki', nu', va', ev', g1, g2, g3, g4, g5⟩ := ih p (k + 1) (j + 1) _ _ _ _ _ (by omega) (by omega) (rEv_move hr (k := k) (j := j) (by omega) (by omega))
      refine ⟨j', an', ki', nu', va', ev', g1, ?_, fun p' => ?_, g4, same_tr (same_move (by omega)) g5⟩
      · rw [brc_t h0, bnd_t (c_move (by omega) (by omega) hN hrk.2.2.2.2.1), nI_1, nI_1]
        exact g2
      · rw [show p' + (i + 1) + 1 = (p' + i + 1) + 1 by omega, fX10_confirm_L20_s, grd_t (by (first | exact Or.inl rfl | exact Or.inr rfl | assumption | (simp (disch := omega) only [z_le, z_lt, z_eq, vp_in_iff, z_nI, ix_nI, Int32.reduceToInt, ix0, ix1, ix2, ix3] <;> omega))), ix_nI (by omega), hec, brc_f (by (first | exact Or.inl rfl | exact Or.inr rfl | assumption | (simp (disch := omega) only [z_le, z_lt, z_eq, vp_in_iff, z_nI, ix_nI, Int32.reduceToInt, ix0, ix1, ix2, ix3] <;> omega))), bnd_t (m_place c k), show (3 : Int32) = nI 3 from rfl, nI_add, grd_t (by (first | exact Or.inl rfl | exact Or.inr rfl | assumption | (simp (disch := omega) only [z_le, z_lt, z_eq, vp_in_iff, z_nI, ix_nI, Int32.reduceToInt, ix0, ix1, ix2, ix3] <;> omega))), ix_nI (by omega), brc_t (by rw [← hrk.2.2.2.1]; exact h0), bnd_t (m_copy hc (by omega) hj)]
        unfold fX10_confirm_L58
        rw [nI_1, nI_1]
        exact g3 p'
    · obtain ⟨j', an', ki', nu', va', ev', g1, g2, g3, g4, g5⟩ := ih p (k + 1) j an ki nu va ev (by omega) (by omega) hr
      refine ⟨j', an', ki', nu', va', ev', g1, ?_, fun p' => ?_, g4, g5⟩
      · rw [brc_f h0, nI_1]
        exact g2
      · rw [show p' + (i + 1) + 1 = (p' + i + 1) + 1 by omega, fX10_confirm_L20_s, grd_t (by (first | exact Or.inl rfl | exact Or.inr rfl | assumption | (simp (disch := omega) only [z_le, z_lt, z_eq, vp_in_iff, z_nI, ix_nI, Int32.reduceToInt, ix0, ix1, ix2, ix3] <;> omega))), ix_nI (by omega), hec, brc_f (by (first | exact Or.inl rfl | exact Or.inr rfl | assumption | (simp (disch := omega) only [z_le, z_lt, z_eq, vp_in_iff, z_nI, ix_nI, Int32.reduceToInt, ix0, ix1, ix2, ix3] <;> omega))), bnd_t (m_place c k), show (3 : Int32) = nI 3 from rfl, nI_add, grd_t (by (first | exact Or.inl rfl | exact Or.inr rfl | assumption | (simp (disch := omega) only [z_le, z_lt, z_eq, vp_in_iff, z_nI, ix_nI, Int32.reduceToInt, ix0, ix1, ix2, ix3] <;> omega))), ix_nI (by omega), brc_f (by rw [← hrk.2.2.2.1]; exact h0)]
        unfold fX10_confirm_L58
        rw [nI_1]
        exact g3 p'
