/-! the events of all classes -/
def rEvs (N : Nat) (l0 : Int32) (a0 k0 u0 v0 : Nat → Int32) (l1 : Int32) (a1 k1 u1 v1 : Nat → Int32) (l2 : Int32) (a2 k2 u2 v2 : Nat → Int32) (ec ev : Nat → Int32) : Prop :=
  ∃ n0 n1 n2 : Nat, n0 ≤ N ∧ n1 ≤ N ∧ n2 ≤ N ∧ l0 = nI n0 ∧ l1 = nI n1 ∧ l2 = nI n2 ∧ ec 1 = nI n0 ∧ ec 2 = nI n1 ∧ ec 3 = nI n2 ∧ rEv 1 n0 a0 k0 u0 v0 ev ∧ rEv 2 n1 a1 k1 u1 v1 ev ∧ rEv 3 n2 a2 k2 u2 v2 ev
theorem r_gone1 {N n c : Nat} {lo wa : Int32} {ec an ki nu va ev : Nat → Int32} {kk : Int32 → Int32 → Int32 → (Nat → Int32) → (Nat → Int32) → Option (Int32 × Int32 × (Nat → Int32) × (Nat → Int32))} (hn : n ≤ N) (hN : N ≤ 40) (hc : c ≤ 3) (hec : ec c = nI n) (hr : rEv c n an ki nu va ev) :
    ∃ j' an' ki' nu' va' ev', j' ≤ n ∧ fX2_removeAnswered N (nI n) an ki nu va = some (nI j', an', ki', nu', va') ∧ fX10_confirm_L20 kk FU (nI c) 0 0 lo wa ec ev = kk (nI (c + 1)) lo wa (upd ec c (nI j')) ev' ∧ rEv c j' an' ki' nu' va' ev' ∧ same c ev ev' := by
  obtain ⟨j', an', ki', nu', va', ev', g1, g2, g3, g4, g5⟩ := r_gone (kk := kk) (lo := lo) (wa := wa) hn hN hc hec n (4999 - n) 0 0 an ki nu va ev (by omega) (Nat.le_refl _) hr
  have e : 4999 - n + n + 1 = FU := by unfold FU; omega
  have g3 := g3 (4999 - n)
  rw [e] at g2 g3
  exact ⟨j', an', ki', nu', va', ev', g1, g2, g3, rEv_less g4 g1, g5⟩
theorem r_confirm {x1 : Int32} {c_rows_0_length : Int32} {c_rows_0_answered : Nat → Int32} {c_rows_0_kinds : Nat → Int32} {c_rows_0_numbers : Nat → Int32} {c_rows_0_values : Nat → Int32} {c_rows_1_length : Int32} {c_rows_1_answered : Nat → Int32} {c_rows_1_kinds : Nat → Int32} {c_rows_1_numbers : Nat → Int32} {c_rows_1_values : Nat → Int32} {c_rows_2_length : Int32} {c_rows_2_answered : Nat → Int32} {c_rows_2_kinds : Nat → Int32} {c_rows_2_numbers : Nat → Int32} {c_rows_2_values : Nat → Int32} {N : Nat} {lo aw : Int32} {ec ev : Nat → Int32} (hN : N ≤ 40) (h : rEvs N c_rows_0_length c_rows_0_answered c_rows_0_kinds c_rows_0_numbers c_rows_0_values c_rows_1_length c_rows_1_answered c_rows_1_kinds c_rows_1_numbers c_rows_1_values c_rows_2_length c_rows_2_answered c_rows_2_kinds c_rows_2_numbers c_rows_2_values ec ev) :
    ok2 (fX3_confirm N N N x1 lo aw c_rows_0_length c_rows_0_answered c_rows_0_kinds c_rows_0_numbers c_rows_0_values c_rows_1_length c_rows_1_answered c_rows_1_kinds c_rows_1_numbers c_rows_1_values c_rows_2_length c_rows_2_answered c_rows_2_kinds c_rows_2_numbers c_rows_2_values) (fX10_confirm x1 lo aw ec ev) (fun o o' => o.1 = o'.1 ∧ (isB lo → isB o.1) ∧ o.2.1 = o'.2.1 ∧ rEvs N o.2.2.1 o.2.2.2.1 o.2.2.2.2.1 o.2.2.2.2.2.1 o.2.2.2.2.2.2.1 o.2.2.2.2.2.2.2.1 o.2.2.2.2.2.2.2.2.1 o.2.2.2.2.2.2.2.2.2.1 o.2.2.2.2.2.2.2.2.2.2.1 o.2.2.2.2.2.2.2.2.2.2.2.1 o.2.2.2.2.2.2.2.2.2.2.2.2.1 o.2.2.2.2.2.2.2.2.2.2.2.2.2.1 o.2.2.2.2.2.2.2.2.2.2.2.2.2.2.1 o.2.2.2.2.2.2.2.2.2.2.2.2.2.2.2.1 o.2.2.2.2.2.2.2.2.2.2.2.2.2.2.2.2 o'.2.2.1 o'.2.2.2) := by
  unfold fX3_confirm fX10_confirm fX10_confirm_L87
  by_cases hx : aw = x1
  · rw [brc_t hx, brc_t hx]
    obtain ⟨n0, n1, n2, h0, h1, h2, rfl, rfl, rfl, e0, e1, e2, r0, r1, r2⟩ := h
    obtain ⟨j0, a0, k0, u0, v0, ev0, b0, g0, m0, s0, q0⟩ := r_gone1 (kk := fX10_confirm_L10 4999) (lo := lo) (wa := aw) (c := 1) h0 hN (by decide) e0 r0
    obtain ⟨j1, a1, k1, u1, v1, ev1, b1, g1, m1, s1, q1⟩ := r_gone1 (kk := fX10_confirm_L10 4998) (lo := lo) (wa := aw) (c := 2) (ec := upd ec 1 (nI j0)) h1 hN (by decide) (by rw [pk_un (by decide)]; exact e1) (rEv_other r1 q0 (by decide) (by omega))
    obtain ⟨j2, a2, k2, u2, v2, ev2, b2, g2, m2, s2, q2⟩ := r_gone1 (kk := fX10_confirm_L10 4997) (lo := lo) (wa := aw) (c := 3) (ec := upd (upd ec 1 (nI j0)) 2 (nI j1)) h2 hN (by decide) (by rw [pk_un (by decide), pk_un (by decide)]; exact e2) (rEv_other (rEv_other r2 q0 (by decide) (by omega)) q1 (by decide) (by omega))
    have cl : fX3_confirm_L21 N N N FU 0 0 (-1) (nI n0) c_rows_0_answered c_rows_0_kinds c_rows_0_numbers c_rows_0_values (nI n1) c_rows_1_answered c_rows_1_kinds c_rows_1_numbers c_rows_1_values (nI n2) c_rows_2_answered c_rows_2_kinds c_rows_2_numbers c_rows_2_values = some (0, -1, nI j0, a0, k0, u0, v0, nI j1, a1, k1, u1, v1, nI j2, a2, k2, u2, v2) := by
      rw [show FU = 4996 + 1 + 1 + 1 + 1 from rfl, fX3_confirm_L21_s, brc_f (by decide), grd_t (show vp_in 0 3 from vp_in_nI (n := 0) (by decide) (by decide)), ix0, brc_t rfl, bnd_t g0]
      rw [show (0 : Int32) + 1 = 1 from rfl, fX3_confirm_L21_s, brc_f (by decide), grd_t (show vp_in 1 3 from vp_in_nI (n := 1) (by decide) (by decide)), ix1, brc_f (by decide), brc_t rfl, bnd_t g1]
      rw [show (1 : Int32) + 1 = 2 from rfl, fX3_confirm_L21_s, brc_f (by decide), grd_t (show vp_in 2 3 from vp_in_nI (n := 2) (by decide) (by decide)), ix2, brc_f (by decide), brc_f (by decide), bnd_t g2]
      rw [show (2 : Int32) + 1 = 3 from rfl, fX3_confirm_L21_s, brc_t (by decide)]
    have ml : fX10_confirm_L10 FU 1 lo aw ec ev = some (0, -1, upd (upd (upd ec 1 (nI j0)) 2 (nI j1)) 3 (nI j2), ev2) := by
      rw [show FU = 4999 + 1 from rfl, fX10_confirm_L10_s, brc_f (by decide)]
      refine Eq.trans m0 ?_
      rw [show fX10_confirm_L10 4999 = fX10_confirm_L10 (4998 + 1) from rfl, fX10_confirm_L10_s, brc_f (show ¬ (4 : Int32) ≤ nI (1 + 1) by decide)]
      refine Eq.trans m1 ?_
      rw [show fX10_confirm_L10 4998 = fX10_confirm_L10 (4997 + 1) from rfl, fX10_confirm_L10_s, brc_f (show ¬ (4 : Int32) ≤ nI (2 + 1) by decide)]
      refine Eq.trans m2 ?_
      rw [show fX10_confirm_L10 4997 = fX10_confirm_L10 (4996 + 1) from rfl, fX10_confirm_L10_s, brc_t (show (4 : Int32) ≤ nI (3 + 1) by decide)]
      rfl
    rw [cl, ml]
    refine ok2_ss ⟨rfl, fun _ => Or.inl rfl, rfl, j0, j1, j2, by omega, by omega, by omega, rfl, rfl, rfl, ?_, ?_, ?_, ?_, ?_, s2⟩
    · show upd (upd (upd ec 1 (nI j0)) 2 (nI j1)) 3 (nI j2) 1 = nI j0
      rw [pk_un (by decide), pk_un (by decide)]; exact pk_us
    · show upd (upd (upd ec 1 (nI j0)) 2 (nI j1)) 3 (nI j2) 2 = nI j1
      rw [pk_un (by decide)]; exact pk_us
    · show upd (upd (upd ec 1 (nI j0)) 2 (nI j1)) 3 (nI j2) 3 = nI j2
      exact pk_us
    · exact rEv_other (rEv_other s0 q1 (by decide) (by omega)) q2 (by decide) (by omega)
    · exact rEv_other s1 q2 (by decide) (by omega)
  · rw [brc_f hx, brc_f hx]
    exact ok2_ss ⟨rfl, fun h => h, rfl, h⟩
/-! the mark of what is answered goes -/
theorem c_stop {N n0 n1 n2 : Nat} {aw : Int32} {a0 a1 a2 : Nat → Int32} (hN : N ≤ 40) (h0 : n0 ≤ N) (h1 : n1 ≤ N) (h2 : n2 ≤ N) : fX3_stopWaiting N N N (nI n0) (nI n1) (nI n2) aw a0 a1 a2 = some (-1, unk a0 n0, unk a1 n1, unk a2 n2) := by
  unfold fX3_stopWaiting
  rw [show FU = 4996 + 1 + 1 + 1 + 1 from rfl, fX3_stopWaiting_L7_s, brc_f (by decide), grd_t (show vp_in 0 3 from vp_in_nI (n := 0) (by decide) (by decide)), ix0, brc_t rfl, bnd_t (c_unm h0 hN)]
  rw [show (0 : Int32) + 1 = 1 from rfl, fX3_stopWaiting_L7_s, brc_f (by decide), grd_t (show vp_in 1 3 from vp_in_nI (n := 1) (by decide) (by decide)), ix1, brc_f (by decide), brc_t rfl, bnd_t (c_unm h1 hN)]
  rw [show (1 : Int32) + 1 = 2 from rfl, fX3_stopWaiting_L7_s, brc_f (by decide), grd_t (show vp_in 2 3 from vp_in_nI (n := 2) (by decide) (by decide)), ix2, brc_f (by decide), brc_f (by decide), bnd_t (c_unm h2 hN)]
  rw [show (2 : Int32) + 1 = 3 from rfl, fX3_stopWaiting_L7_s, brc_t (by decide)]
theorem c_left_loop {N n : Nat} {an : Nat → Int32} (hn : n ≤ N) (hN : N ≤ 40) : ∀ (j p k : Nat), k + j = n → ok (fX2_hasUnanswered_L2 N (nI n) an (p + j + 1) (nI k)) (fun _ => True) := by
  intro j
  induction j with
  | zero =>
    intro p k hk
    have hk : k = n := hk
    subst hk
    rw [fX2_hasUnanswered_L2_s, brc_t (by (first | exact Or.inl rfl | exact Or.inr rfl | assumption | (simp (disch := omega) only [z_le, z_lt, z_eq, vp_in_iff, z_nI, ix_nI, Int32.reduceToInt, ix0, ix1, ix2, ix3] <;> omega)))]
    exact ok_some trivial
  | succ j ih =>
    intro p k hk
    rw [show p + (j + 1) + 1 = (p + j + 1) + 1 by omega, fX2_hasUnanswered_L2_s, brc_f (by (first | exact Or.inl rfl | exact Or.inr rfl | assumption | (simp (disch := omega) only [z_le, z_lt, z_eq, vp_in_iff, z_nI, ix_nI, Int32.reduceToInt, ix0, ix1, ix2, ix3] <;> omega))), grd_t (by (first | exact Or.inl rfl | exact Or.inr rfl | assumption | (simp (disch := omega) only [z_le, z_lt, z_eq, vp_in_iff, z_nI, ix_nI, Int32.reduceToInt, ix0, ix1, ix2, ix3] <;> omega))), nI_1]
    exact ok_brc (fun _ => ok_some trivial) (fun _ => ih p (k + 1) (by omega))
theorem c_left1 {N n : Nat} {an : Nat → Int32} (hn : n ≤ N) (hN : N ≤ 40) : ok (fX2_hasUnanswered N (nI n) an) (fun _ => True) := by
  unfold fX2_hasUnanswered
  have e := c_left_loop (an := an) hn hN n (4999 - n) 0 (by omega)
  rw [show 4999 - n + n + 1 = FU by unfold FU; omega] at e
  exact e
theorem c_left {N n0 n1 n2 : Nat} {a0 a1 a2 : Nat → Int32} (hN : N ≤ 40) (h0 : n0 ≤ N) (h1 : n1 ≤ N) (h2 : n2 ≤ N) : ok (fX3_classesLeft N N N (nI n0) a0 (nI n1) a1 (nI n2) a2) (fun _ => True) := by
  unfold fX3_classesLeft
  have step : ∀ (p q : Nat) (x : Int32), q ≤ 3 → p + q = 4999 → ok (fX3_classesLeft_L4 N N N (nI n0) a0 (nI n1) a1 (nI n2) a2 (p + 1) x (nI q)) (fun _ => True) := by
    have last : ∀ (p : Nat) (x : Int32), ok (fX3_classesLeft_L4 N N N (nI n0) a0 (nI n1) a1 (nI n2) a2 (p + 1) x 3) (fun _ => True) := by
      intro p x
      rw [fX3_classesLeft_L4_s, brc_t (by decide)]
      exact ok_some trivial
    have s2 : ∀ (p : Nat) (x : Int32), ok (fX3_classesLeft_L4 N N N (nI n0) a0 (nI n1) a1 (nI n2) a2 (p + 1 + 1) x 2) (fun _ => True) := by
      intro p x
      rw [fX3_classesLeft_L4_s, brc_f (by decide), grd_t (show vp_in 2 3 from vp_in_nI (n := 2) (by decide) (by decide)), ix2, brc_f (by decide), brc_f (by decide)]
      unfold fX3_classesLeft_L27
      rw [show (2 : Int32) + 1 = 3 from rfl]
      exact ok_bnd (c_left1 h2 hN) (fun u _ => ok_brc (fun _ => last p _) (fun _ => last p _))
    have s1 : ∀ (p : Nat) (x : Int32), ok (fX3_classesLeft_L4 N N N (nI n0) a0 (nI n1) a1 (nI n2) a2 (p + 1 + 1 + 1) x 1) (fun _ => True) := by
      intro p x
      rw [fX3_classesLeft_L4_s, brc_f (by decide), grd_t (show vp_in 1 3 from vp_in_nI (n := 1) (by decide) (by decide)), ix1, brc_f (by decide), brc_t rfl]
      unfold fX3_classesLeft_L27
      rw [show (1 : Int32) + 1 = 2 from rfl]
      exact ok_bnd (c_left1 h1 hN) (fun u _ => ok_brc (fun _ => s2 p _) (fun _ => s2 p _))
    have s0 : ∀ (p : Nat) (x : Int32), ok (fX3_classesLeft_L4 N N N (nI n0) a0 (nI n1) a1 (nI n2) a2 (p + 1 + 1 + 1 + 1) x 0) (fun _ => True) := by
      intro p x
      rw [fX3_classesLeft_L4_s, brc_f (by decide), grd_t (show vp_in 0 3 from vp_in_nI (n := 0) (by decide) (by decide)), ix0, brc_t rfl]
      unfold fX3_classesLeft_L27
      rw [show (0 : Int32) + 1 = 1 from rfl]
      exact ok_bnd (c_left1 h0 hN) (fun u _ => ok_brc (fun _ => s1 p _) (fun _ => s1 p _))
    intro p q x hq hp
    rcases (show q = 0 ∨ q = 1 ∨ q = 2 ∨ q = 3 by omega) with rfl | rfl | rfl | rfl
    · have hp : p = 4996 + 1 + 1 + 1 := by omega
      subst hp
      exact s0 _ x
    · have hp : p = 4996 + 1 + 1 := by omega
      subst hp
      exact s1 _ x
    · have hp : p = 4996 + 1 := by omega
      subst hp
      exact s2 _ x
    · exact last p x
  exact step 4999 0 0 (by decide) rfl
/-! a new event -/
theorem full_f {N n : Nat} (h : n < N) (hN : N ≤ 40) : fX2_isFull (nI N) (nI n) = some 0 := by
  unfold fX2_isFull fX2_isFull_L16
  rw [brc_t (by (first | exact Or.inl rfl | exact Or.inr rfl | assumption | (simp (disch := omega) only [z_le, z_lt, z_eq, vp_in_iff, z_nI, ix_nI, Int32.reduceToInt, ix0, ix1, ix2, ix3] <;> omega))), grd_t (by (first | exact Or.inl rfl | exact Or.inr rfl | assumption | (simp (disch := omega) only [z_le, z_lt, z_eq, vp_in_iff, z_nI, ix_nI, Int32.reduceToInt, ix0, ix1, ix2, ix3] <;> omega)))]
theorem full_t {N : Nat} (hN : N ≤ 40) : fX2_isFull (nI N) (nI N) = some 1 := by
  unfold fX2_isFull fX2_isFull_L16
  rw [brc_f (by (first | exact Or.inl rfl | exact Or.inr rfl | assumption | (simp (disch := omega) only [z_le, z_lt, z_eq, vp_in_iff, z_nI, ix_nI, Int32.reduceToInt, ix0, ix1, ix2, ix3] <;> omega))), grd_t (by (first | exact Or.inl rfl | exact Or.inr rfl | assumption | (simp (disch := omega) only [z_le, z_lt, z_eq, vp_in_iff, z_nI, ix_nI, Int32.reduceToInt, ix0, ix1, ix2, ix3] <;> omega)))]
theorem c_app {N n : Nat} {kx nx vx : Int32} {an ki nu va : Nat → Int32} (h : n < N) (hN : N ≤ 40) : fX2_append N (nI N) kx nx vx (nI n) an ki nu va = some (nI (n + 1), upd an n 0, upd ki n kx, upd nu n nx, upd va n vx) := by
  unfold fX2_append
  have hv : vp_in (nI n) N := vp_in_nI h (by omega)
  rw [bnd_t (full_f h hN), brc_t rfl, grd_t hv, grd_t hv, grd_t hv, grd_t hv, nI_1, ix_nI (by omega)]
theorem m_make57 {c n : Nat} {sz kx nx vx lo : Int32} {ec ev : Nat → Int32} (hc : c ≤ 3) (hn : n < 40) (he : ec c = nI n) : fX10_make_L57 sz (nI c) kx nx vx lo ec ev = some (lo, upd ec c (nI (n + 1)), upd (upd (upd (upd ev (160 * c + 4 * n) kx) (160 * c + 4 * n + 1) nx) (160 * c + 4 * n + 2) vx) (160 * c + 4 * n + 3) 0) := by
  unfold fX10_make_L57
  have hv : vp_in (nI c) 4 := vp_in_nI (by omega) (by decide)
  rw [grd_t hv, ix_nI (by omega), he, bnd_t (m_place c n), show (2 : Int32) = nI 2 from rfl, show (3 : Int32) = nI 3 from rfl, nI_1, nI_1, nI_add, nI_add, grd_t (by (first | exact Or.inl rfl | exact Or.inr rfl | assumption | (simp (disch := omega) only [z_le, z_lt, z_eq, vp_in_iff, z_nI, ix_nI, Int32.reduceToInt, ix0, ix1, ix2, ix3] <;> omega))), grd_t (by (first | exact Or.inl rfl | exact Or.inr rfl | assumption | (simp (disch := omega) only [z_le, z_lt, z_eq, vp_in_iff, z_nI, ix_nI, Int32.reduceToInt, ix0, ix1, ix2, ix3] <;> omega))), grd_t (by (first | exact Or.inl rfl | exact Or.inr rfl | assumption | (simp (disch := omega) only [z_le, z_lt, z_eq, vp_in_iff, z_nI, ix_nI, Int32.reduceToInt, ix0, ix1, ix2, ix3] <;> omega))), grd_t (by (first | exact Or.inl rfl | exact Or.inr rfl | assumption | (simp (disch := omega) only [z_le, z_lt, z_eq, vp_in_iff, z_nI, ix_nI, Int32.reduceToInt, ix0, ix1, ix2, ix3] <;> omega))), grd_t hv, grd_t hv, ix_nI (by omega), ix_nI (by omega), ix_nI (by omega), ix_nI (by omega)]
theorem rEv_app {c n : Nat} {kx nx vx : Int32} {an ki nu va ev : Nat → Int32} (h : rEv c n an ki nu va ev) (hk : isB kx) : rEv c (n + 1) (upd an n 0) (upd ki n kx) (upd nu n nx) (upd va n vx) (upd (upd (upd (upd ev (160 * c + 4 * n) kx) (160 * c + 4 * n + 1) nx) (160 * c + 4 * n + 2) vx) (160 * c + 4 * n + 3) 0) := by
  intro k hk1
  by_cases e : k = n
  · subst e
    rw [pk_us, pk_us, pk_us, pk_us]
    refine ⟨?_, ?_, ?_, ?_, Or.inl rfl, hk⟩
    · rw [pk_un (by omega), pk_un (by omega), pk_un (by omega), pk_us]
    · rw [pk_un (by omega), pk_un (by omega), pk_us]
    · rw [pk_un (by omega), pk_us]
    · rw [pk_us]
  · rw [pk_un e, pk_un e, pk_un e, pk_un e]
    obtain ⟨h1, h2, h3, h4, h5⟩ := h k (by omega)
    refine ⟨?_, ?_, ?_, ?_, h5⟩
    · rw [pk_un (by omega), pk_un (by omega), pk_un (by omega), pk_un (by omega)]; exact h1
    · rw [pk_un (by omega), pk_un (by omega), pk_un (by omega), pk_un (by omega)]; exact h2
    · rw [pk_un (by omega), pk_un (by omega), pk_un (by omega), pk_un (by omega)]; exact h3
    · rw [pk_un (by omega), pk_un (by omega), pk_un (by omega), pk_un (by omega)]; exact h4
theorem same_app {c n : Nat} {kx nx vx : Int32} {ev : Nat → Int32} (hn : n < 40) : same c ev (upd (upd (upd (upd ev (160 * c + 4 * n) kx) (160 * c + 4 * n + 1) nx) (160 * c + 4 * n + 2) vx) (160 * c + 4 * n + 3) 0) := by
  intro x hx
  rw [pk_un (by omega), pk_un (by omega), pk_un (by omega), pk_un (by omega)]
theorem if_pred {N : Nat} (hN : 1 ≤ N) (h : N ≤ 40) : (if (0 : Int32) < nI (N - 1) then nI (N - 1) else (0 : Int32)) = nI (N - 1) := by
  by_cases e : N = 1
  · subst e
    rfl
  · rw [if_pos (by (first | exact Or.inl rfl | exact Or.inr rfl | assumption | (simp (disch := omega) only [z_le, z_lt, z_eq, vp_in_iff, z_nI, ix_nI, Int32.reduceToInt, ix0, ix1, ix2, ix3] <;> omega)))]
theorem r_old {N c : Nat} {kx nx vx lo : Int32} {ec : Nat → Int32} (h1 : 1 ≤ N) (hN : N ≤ 40) (hc : c ≤ 3) (he : ec c = nI N) : ∀ (i p p' k : Nat) (an ki nu va ev : Nat → Int32), k + i = N → 1 ≤ k → rEv c N an ki nu va ev →
    ∃ an' ki' nu' va' ev', fX2_removeOldest_L2 N (p + i + 1) (nI k) (nI N) an ki nu va = some (nI (N - 1), an', ki', nu', va') ∧ fX10_make_L16 (nI N) (p' + i + 1) (nI c) kx nx vx (nI k) lo ec ev = fX10_make_L57 (nI N) (nI c) kx nx vx 1 (upd ec c (nI (N - 1))) ev' ∧ rEv c N an' ki' nu' va' ev' ∧ same c ev ev' := by
  intro i
  induction i with
  | zero =>
    intro p p' k an ki nu va ev hk hk1 hr
    have hk : k = N := hk
    subst hk
    refine ⟨an, ki, nu, va, ev, ?_, ?_, hr, same_rf⟩
    · rw [fX2_removeOldest_L2_s, brc_t (by (first | exact Or.inl rfl | exact Or.inr rfl | assumption | (simp (disch := omega) only [z_le, z_lt, z_eq, vp_in_iff, z_nI, ix_nI, Int32.reduceToInt, ix0, ix1, ix2, ix3] <;> omega))), nI_m1 h1, if_pred h1 hN]
    · rw [fX10_make_L16_s, brc_t (by (first | exact Or.inl rfl | exact Or.inr rfl | assumption | (simp (disch := omega) only [z_le, z_lt, z_eq, vp_in_iff, z_nI, ix_nI, Int32.reduceToInt, ix0, ix1, ix2, ix3] <;> omega))), grd_t (by (first | exact Or.inl rfl | exact Or.inr rfl | assumption | (simp (disch := omega) only [z_le, z_lt, z_eq, vp_in_iff, z_nI, ix_nI, Int32.reduceToInt, ix0, ix1, ix2, ix3] <;> omega))), grd_t (by (first | exact Or.inl rfl | exact Or.inr rfl | assumption | (simp (disch := omega) only [z_le, z_lt, z_eq, vp_in_iff, z_nI, ix_nI, Int32.reduceToInt, ix0, ix1, ix2, ix3] <;> omega))), ix_nI (by omega), he, nI_m1 h1]
  | succ i ih =>
    intro p p' k an ki nu va ev hk hk1 hr
    obtain ⟨an', ki', nu', va', ev', g1, g2, g3, g4⟩ := ih p p' (k + 1) _ _ _ _ _ (by omega) (by omega) (rEv_move hr (k := k) (j := k - 1) (by omega) (by omega))
    refine ⟨an', ki', nu', va', ev', ?_, ?_, g3, same_tr (same_move (by omega)) g4⟩
    · rw [show p + (i + 1) + 1 = (p + i + 1) + 1 by omega, fX2_removeOldest_L2_s, brc_f (by (first | exact Or.inl rfl | exact Or.inr rfl | assumption | (simp (disch := omega) only [z_le, z_lt, z_eq, vp_in_iff, z_nI, ix_nI, Int32.reduceToInt, ix0, ix1, ix2, ix3] <;> omega))), nI_m1 hk1, bnd_t (c_move (by omega) (by omega) hN (hr k (by omega)).2.2.2.2.1), nI_1]
      exact g1
    · rw [show p' + (i + 1) + 1 = (p' + i + 1) + 1 by omega, fX10_make_L16_s, brc_f (by (first | exact Or.inl rfl | exact Or.inr rfl | assumption | (simp (disch := omega) only [z_le, z_lt, z_eq, vp_in_iff, z_nI, ix_nI, Int32.reduceToInt, ix0, ix1, ix2, ix3] <;> omega))), nI_m1 hk1, bnd_t (m_copy hc (by omega) (by omega)), nI_1]
      exact g2
/-- a row that takes an event, on both sides -/
theorem r_row {N n c : Nat} {kx nx vx lo : Int32} {an ki nu va ec ev : Nat → Int32} (h1 : 1 ≤ N) (hN : N ≤ 40) (hc : c ≤ 3) (hn : n ≤ N) (he : ec c = nI n) (hk : isB kx) (hr : rEv c n an ki nu va ev) :
    ∃ n' lo' an' ki' nu' va' ec' ev', n' ≤ N ∧ (isB lo → isB lo') ∧
      ((n < N ∧ lo' = lo ∧ fX2_append N (nI N) kx nx vx (nI n) an ki nu va = some (nI n', an', ki', nu', va')) ∨
       (n = N ∧ lo' = 1 ∧ ∃ an1 ki1 nu1 va1, fX2_removeOldest N (nI N) an ki nu va = some (nI (N - 1), an1, ki1, nu1, va1) ∧ fX2_append N (nI N) kx nx vx (nI (N - 1)) an1 ki1 nu1 va1 = some (nI n', an', ki', nu', va'))) ∧
      fX10_make (nI N) (nI c) kx nx vx lo ec ev = some (lo', ec', ev') ∧ ec' c = nI n' ∧ (∀ x, x ≠ c → ec' x = ec x) ∧ rEv c n' an' ki' nu' va' ev' ∧ same c ev ev' := by
  unfold fX10_make
  rw [grd_t (show vp_in (nI c) 4 from vp_in_nI (by omega) (by decide)), ix_nI (by omega), he]
  by_cases h : n < N
  · refine ⟨n + 1, lo, _, _, _, _, _, _, by omega, fun z => z, Or.inl ⟨h, rfl, c_app h hN⟩, ?_, pk_us, fun x hx => pk_un hx, rEv_app hr hk, same_app (by omega)⟩
    rw [brc_f (fun q => by have := (nI_eq (by omega) (by omega)).mp q; omega), m_make57 hc (by omega) he]
  · have hn : n = N := by omega
    subst hn
    obtain ⟨an', ki', nu', va', ev', g1, g2, g3, g4⟩ := r_old (kx := kx) (nx := nx) (vx := vx) (lo := lo) h1 hN hc he (n - 1) (4999 - (n - 1)) (4999 - (n - 1)) 1 an ki nu va ev (by omega) (Nat.le_refl _) hr
    rw [show 4999 - (n - 1) + (n - 1) + 1 = FU by unfold FU; omega] at g1 g2
    have hn1 : n - 1 + 1 = n := by omega
    refine ⟨n, 1, upd an' (n - 1) 0, upd ki' (n - 1) kx, upd nu' (n - 1) nx, upd va' (n - 1) vx, upd (upd ec c (nI (n - 1))) c (nI (n - 1 + 1)), upd (upd (upd (upd ev' (160 * c + 4 * (n - 1)) kx) (160 * c + 4 * (n - 1) + 1) nx) (160 * c + 4 * (n - 1) + 2) vx) (160 * c + 4 * (n - 1) + 3) 0, Nat.le_refl _, fun _ => Or.inr rfl, Or.inr ⟨rfl, rfl, an', ki', nu', va', g1, ?_⟩, ?_, ?_, ?_, ?_, same_tr g4 (same_app (n := n - 1) (kx := kx) (nx := nx) (vx := vx) (by omega))⟩
    · have e := c_app (kx := kx) (nx := nx) (vx := vx) (an := an') (ki := ki') (nu := nu') (va := va') (show n - 1 < n by omega) hN
      rw [hn1] at e
      exact e
    · rw [brc_t rfl]
      refine Eq.trans g2 ?_
      rw [m_make57 hc (n := n - 1) (by omega) pk_us]
    · rw [pk_us, hn1]
    · intro x hx
      rw [pk_un hx, pk_un hx]
    · have e := rEv_app (kx := kx) (nx := nx) (vx := vx) (rEv_less g3 (show n - 1 ≤ n by omega)) hk
      rw [hn1] at e
      exact e
