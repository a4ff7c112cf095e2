theorem known_t {f : Nat → Int32} (hb : byt f) {a : Nat} {y : Int32} (h : ix (f a) ≤ 7) (hy : y = 3 ∨ y = 4) : fX8_isKnown (f a) y = some 1 := by
  unfold fX8_isKnown fX8_isKnown_L20 fX8_isKnown_L24 fX8_isKnown_L25
  have e := hb a
  rw [z_ix] at h
  rw [brc_f (by rw [z_lt]; simp only [Int32.reduceToInt]; omega), brc_f (by rw [z_le]; simp only [Int32.reduceToInt]; omega)]
  rcases hy with rfl | rfl
  · rw [brc_t rfl, grd_t (by (first | exact Or.inl rfl | exact Or.inr rfl | assumption | (simp (disch := omega) only [z_le, z_lt, z_eq, vp_in_iff, z_nI, ix_nI, Int32.reduceToInt, ix0, ix1, ix2, ix3] <;> omega)))]
  · rw [brc_f (by decide), brc_t rfl, grd_t (by (first | exact Or.inl rfl | exact Or.inr rfl | assumption | (simp (disch := omega) only [z_le, z_lt, z_eq, vp_in_iff, z_nI, ix_nI, Int32.reduceToInt, ix0, ix1, ix2, ix3] <;> omega)))]
theorem known_f {f : Nat → Int32} (hb : byt f) {a : Nat} {y : Int32} (h : ¬ (ix (f a) ≤ 7 ∧ (y = 3 ∨ y = 4))) : fX8_isKnown (f a) y = some 0 := by
  unfold fX8_isKnown fX8_isKnown_L20 fX8_isKnown_L24 fX8_isKnown_L25
  have e := hb a
  rw [z_ix] at h
  rw [brc_f (show ¬ f a < 0 by rw [z_lt]; simp only [Int32.reduceToInt]; omega)]
  by_cases h8 : (8 : Int32) ≤ f a
  · rw [brc_t h8, grd_t (by (first | exact Or.inl rfl | exact Or.inr rfl | assumption | (simp (disch := omega) only [z_le, z_lt, z_eq, vp_in_iff, z_nI, ix_nI, Int32.reduceToInt, ix0, ix1, ix2, ix3] <;> omega)))]
  · rw [z_le] at h8
    simp only [Int32.reduceToInt] at h8
    have hy : ¬ (y = 3 ∨ y = 4) := fun q => h ⟨by omega, q⟩
    rw [brc_f (by rw [z_le]; simp only [Int32.reduceToInt]; omega), brc_f (fun q => hy (Or.inl q)), brc_f (fun q => hy (Or.inr q)), grd_t (by (first | exact Or.inl rfl | exact Or.inr rfl | assumption | (simp (disch := omega) only [z_le, z_lt, z_eq, vp_in_iff, z_nI, ix_nI, Int32.reduceToInt, ix0, ix1, ix2, ix3] <;> omega)))]
theorem gt7 {f : Nat → Int32} (hb : byt f) {a : Nat} : 7 < f a ↔ ¬ ix (f a) ≤ 7 := by
  have e := hb a
  rw [z_lt, z_ix]
  simp only [Int32.reduceToInt]
  omega
theorem r_ctl_loop {tk tmo fn x2 sd sl st ms mq mt flt mfl : Int32} {p f cs se : Nat → Int32} {n r : Nat} (hr1 : 1 ≤ r) (hr8 : r ≤ 8) (hn : n = 6 + 12 * r) (hp : ∀ i, i < n → p i = f i) (hb : byt f) (h5 : f 5 = nI r) (hx : x2 = (f 0 &&& 15)) (hs4 : fn = 4 → ms = -1) (hs : fn ≠ 4 → rSel sl st cs ms mq mt se) :
    ∀ (j a b i : Nat) (all acted : Int32) (codes row ans : Nat → Int32), i + j = r →
    ok2 (fX9_control_L59 249 tk tmo p (a + j + 1) fn (nI n) sd all (nI (6 + 12 * i)) (nI (9 + 12 * i)) flt row acted sl st codes cs) (fX10_command_L246 tmo tk f (b + j + 1) fn x2 (nI n) sd all (nI i) acted (nI (n + 2)) ms mq mt mfl ans codes se) (fun o o' => o.1 = nI (n + 3) ∧ o'.2.1 = nI (n + 2) ∧ o.2.2.2.1 = o'.1 ∧ o.2.2.2.2.2.2.1 = o'.2.2.2.2.2.2.2.1 ∧ rSel o.2.2.2.2.1 o.2.2.2.2.2.1 o.2.2.2.2.2.2.2 o'.2.2.1 o'.2.2.2.1 o'.2.2.2.2.1 o'.2.2.2.2.2.2.2.2) := by
  intro j
  induction j with
  | zero =>
    intro a b i all acted codes row ans hi
    have hi : i = r := hi
    subst hi
    rw [fX9_control_L59_s, fX10_command_L246_s, ix5, h5, show (12 : Int32) = nI 12 from rfl, nI_add, brc_t (show nI n < nI (6 + 12 * i + 12) from nI_lt (by omega) (by omega)), brc_t (show nI i ≤ nI i from nI_le (Nat.le_refl _) (by omega))]
    unfold fX9_control_L184 fX9_control_L207 fX10_command_L437 fX8_forgetSelected
    have hlen : nI (9 + 12 * i) = nI (n + 3) := by congr 1; omega
    by_cases h4 : fn = 4
    · have h3 : ¬ fn = 3 := by rw [h4]; decide
      rw [brc_t h4, bnd_t rfl, brc_f h3, brc_f h3]
      exact ok2_ss ⟨hlen, rfl, rfl, rfl, Or.inl ⟨rfl, hs4 h4⟩⟩
    · rw [brc_f h4]
      by_cases h3 : fn = 3
      · rw [brc_t h3, brc_t h3]
        by_cases ha : all = 0
        · rw [brc_t ha, brc_t ha]
          exact ok2_ss ⟨hlen, rfl, rfl, rfl, hs h4⟩
        · have ek : fX8_keepSelected 249 p (nI n) tk sl st cs = some (nI n, tk, va_cpy p cs 0 0 n) := by
            unfold fX8_keepSelected
            rw [ix0, ix_nI (by omega), grd_t ⟨by decide, by decide, nI_pos (by omega), by omega, by omega⟩]
          rw [brc_f ha, brc_f ha, bnd_t ek, m_keep1 (by omega)]
          refine ok2_ss ⟨hlen, rfl, rfl, rfl, Or.inr ⟨n, by omega, by omega, rfl, rfl, rfl, ?_, fun k hk hkn => ?_⟩⟩
          · dsimp only
            rw [pk_cpy_in (Nat.le_refl _) (by omega), hx]
            congr 1
            exact (hp 0 (by omega)).symm
          · dsimp only
            rw [pk_cpy_in (Nat.zero_le _) (by omega), pk_cpy_in (Nat.zero_le _) (by omega)]
            exact hp _ (by omega)
      · rw [brc_f h3, brc_f h3]
        exact ok2_ss ⟨hlen, rfl, rfl, rfl, hs h4⟩
  | succ j ih =>
    intro a b i all acted codes row ans hi
    have pa : p (6 + 12 * i) = f (6 + 12 * i) := hp _ (by omega)
    have pb : p (6 + 12 * i + 1) = f (6 + 12 * i + 1) := hp _ (by omega)
    have main : ∀ stt : Int32, (stt = 0 → ix (f (6 + 12 * i)) ≤ 7) → ok2 (fX9_control_L94 249 tk tmo p (fX9_control_L59 249 tk tmo p (a + j + 1)) fn (nI n) sd all (nI (6 + 12 * i)) stt (nI (9 + 12 * i)) flt row acted sl st codes cs) (fX10_command_L312 tmo tk f (fX10_command_L246 tmo tk f (b + j + 1)) fn x2 (nI n) sd all (nI i) (nI (6 + 12 * i)) (f (6 + 12 * i)) (f (6 + 12 * i + 1)) stt acted (nI (n + 2)) ms mq mt mfl ans codes se) (fun o o' => o.1 = nI (n + 3) ∧ o'.2.1 = nI (n + 2) ∧ o.2.2.2.1 = o'.1 ∧ o.2.2.2.2.2.2.1 = o'.2.2.2.2.2.2.2.1 ∧ rSel o.2.2.2.2.1 o.2.2.2.2.2.1 o.2.2.2.2.2.2.2 o'.2.2.1 o'.2.2.2.1 o'.2.2.2.2.1 o'.2.2.2.2.2.2.2.2) := by
      intro stt hst
      unfold fX9_control_L94 fX10_command_L312
      rw [show (12 : Int32) = nI 12 from rfl, nI_add, nI_m1 (by omega)]
      refine ok2_lc (c_range1 (by omega) (by omega) (by omega)) (fun u1 h1 => ?_)
      rw [h1]
      refine ok2_lc (c_put0 (by omega)) (fun u2 h2 => ?_)
      have hlen : u2.1 = nI (9 + 12 * (i + 1)) := by rw [h2]; congr 1; omega
      rw [hlen, show (2 : Int32) = nI 2 from rfl, show (11 : Int32) = nI 11 from rfl, nI_add, nI_add]
      refine ok2_rg (vp_in_nI (by omega) (by decide)) ?_
      generalize upd ans (ix (nI (6 + 12 * i + 2 + 11))) stt = ans1
      have act : ∀ al1 : Int32, ok2 (fX9_control_L137 249 tk tmo p (fX9_control_L59 249 tk tmo p (a + j + 1)) fn (nI n) sd (nI (6 + 12 * i)) stt al1 (nI (9 + 12 * (i + 1))) flt u2.2 acted sl st codes cs) (fX10_command_L343 tmo tk f (fX10_command_L246 tmo tk f (b + j + 1)) fn x2 (nI n) sd (nI i) (f (6 + 12 * i)) (f (6 + 12 * i + 1)) stt al1 acted (nI (n + 2)) ms mq mt mfl ans1 codes se) (fun o o' => o.1 = nI (n + 3) ∧ o'.2.1 = nI (n + 2) ∧ o.2.2.2.1 = o'.1 ∧ o.2.2.2.2.2.2.1 = o'.2.2.2.2.2.2.2.1 ∧ rSel o.2.2.2.2.1 o.2.2.2.2.2.1 o.2.2.2.2.2.2.2 o'.2.2.1 o'.2.2.2.1 o'.2.2.2.2.1 o'.2.2.2.2.2.2.2.2) := by
        intro al1
        unfold fX9_control_L137 fX9_control_L166 fX10_command_L343 fX10_command_L374
        rw [show (12 : Int32) = nI 12 from rfl, nI_add, show 6 + 12 * i + 12 = 6 + 12 * (i + 1) by omega, nI_1, nI_1, ix_nI (by omega), ix_nI (by omega), pa, pb]
        by_cases h0 : stt = 0
        · rw [brc_t h0, brc_t h0]
          by_cases h3 : fn = 3
          · rw [brc_t h3, brc_t h3]
            exact ih a b (i + 1) al1 acted codes u2.2 ans1 (by omega)
          · have hv : vp_in (f (6 + 12 * i)) 8 := by
              have e1 := hb (6 + 12 * i)
              have e2 := hst h0
              rw [z_ix] at e2
              rw [vp_in_iff]
              omega
            have ea : fX8_act (f (6 + 12 * i)) (f (6 + 12 * i + 1)) acted codes = some (acted + 1, upd codes (ix (f (6 + 12 * i))) (f (6 + 12 * i + 1))) := by
              unfold fX8_act
              rw [grd_t hv]
            rw [brc_f h3, brc_f h3, grd_t (show vp_in (nI (6 + 12 * i)) 249 from vp_in_nI (by omega) (by decide)), grd_t (show vp_in (nI (6 + 12 * i + 1)) 249 from vp_in_nI (by omega) (by decide)), bnd_t ea, grd_t hv]
            exact ih a b (i + 1) al1 (acted + 1) _ u2.2 ans1 (by omega)
        · rw [brc_f h0, brc_f h0]
          exact ih a b (i + 1) al1 acted codes u2.2 ans1 (by omega)
      unfold fX9_control_L136 fX10_command_L342
      by_cases hz : all = 0
      · rw [brc_t hz, brc_t hz]
        exact act 0
      · rw [brc_f hz, brc_f hz]
        by_cases h0 : stt = 0
        · rw [brc_t h0, brc_t h0]
          exact act 1
        · rw [brc_f h0, brc_f h0]
          exact act 0
    rw [show a + (j + 1) + 1 = (a + j + 1) + 1 by omega, show b + (j + 1) + 1 = (b + j + 1) + 1 by omega, fX9_control_L59_s, fX10_command_L246_s, ix5, h5, show (12 : Int32) = nI 12 from rfl, show (6 : Int32) = nI 6 from rfl, pk_mul, nI_add, nI_add, brc_f (show ¬ nI n < nI (6 + 12 * i + 12) from nI_nlt (by omega) (by omega)), brc_f (show ¬ nI r ≤ nI i from nI_ge (by omega) (by omega)), nI_1, ix_nI (by omega), ix_nI (by omega), pa, pb, grd_t (show vp_in (nI (6 + 12 * i)) 249 from vp_in_nI (by omega) (by decide)), grd_t (show vp_in (nI (6 + 12 * i + 1)) 249 from vp_in_nI (by omega) (by decide)), grd_t (show vp_in (nI (6 + 12 * i)) 600 from vp_in_nI (by omega) (by decide)), grd_t (show vp_in (nI (6 + 12 * i + 1)) 600 from vp_in_nI (by omega) (by decide))]
    unfold fX10_command_L306 fX10_command_L310
    by_cases hk : ix (f (6 + 12 * i)) ≤ 7 ∧ (f (6 + 12 * i + 1) = 3 ∨ f (6 + 12 * i + 1) = 4)
    · rw [bnd_t (known_t hb hk.1 hk.2), brc_f (show ¬ (1 : Int32) = 0 by decide), brc_f (fun q => (gt7 hb).mp q hk.1)]
      rcases hk.2 with h3 | h4
      · rw [brc_t h3]
        exact main sd (fun _ => hk.1)
      · rw [brc_f (by rw [h4]; decide), brc_t h4]
        exact main sd (fun _ => hk.1)
    · rw [bnd_t (known_f hb hk), brc_t (show (0 : Int32) = 0 from rfl)]
      by_cases h7 : 7 < f (6 + 12 * i)
      · rw [brc_t h7]
        exact main 4 (fun q => absurd q (by decide))
      · have h7' : ix (f (6 + 12 * i)) ≤ 7 := Nat.le_of_not_lt (fun q => h7 ((gt7 hb).mpr (by omega)))
        rw [brc_f h7, brc_f (fun q => hk ⟨h7', Or.inl q⟩), brc_f (fun q => hk ⟨h7', Or.inr q⟩)]
        exact main 4 (fun q => absurd q (by decide))
/-- select, operate, direct: on both sides -/
theorem r_control {tk tmo fn x2 sl st ms mq mt flt mfl acted : Int32} {p f cs se row ans codes : Nat → Int32} {n : Nat} (hn2 : 2 ≤ n) (hn : n ≤ 249) (hp : ∀ i, i < n → p i = f i) (hb : byt f) (hx : x2 = (f 0 &&& 15)) (hs : rSel sl st cs ms mq mt se) :
    ok2 (fX9_control 249 tk tmo p fn (nI n) 5 flt row acted sl st codes cs) (fX10_command tmo tk f fn x2 (nI n) acted 4 ms mq mt mfl ans codes se) (fun o o' => (∃ s, s ≤ 249 ∧ o.1 = nI (s + 1) ∧ o'.2.1 = nI s) ∧ o.2.2.2.1 = o'.1 ∧ o.2.2.2.2.2.2.1 = o'.2.2.2.2.2.2.2.1 ∧ rSel o.2.2.2.2.1 o.2.2.2.2.2.1 o.2.2.2.2.2.2.2 o'.2.2.1 o'.2.2.2.1 o'.2.2.2.2.1 o'.2.2.2.2.2.2.2.2) := by
  unfold fX9_control fX10_command fX10_command_L78 fX10_command_L79 fX0_addFault
  have bad : ok2 (brc ((0 : Int32) = 0) (bnd (some (flt ||| 4)) (fun u3 => some ((5 : Int32), u3, row, acted, sl, st, codes, cs))) (brc (fn = 4) (bnd (fX8_standingOf 249 tmo sl st cs p (nI n) tk) (fun u2 => fX9_control_L39 249 tk tmo p fn (nI n) u2 5 flt row acted sl st codes cs)) (fX9_control_L39 249 tk tmo p fn (nI n) 0 5 flt row acted sl st codes cs))) (brc ((0 : Int32) = 0) (some (acted, (4 : Int32), ms, mq, mt, (mfl ||| 4), ans, codes, se)) (brc (fn = 4) (brc (ms = nI n) (brc (((mq + (1 : Int32)) - (mq + (1 : Int32)) / (16 : Int32) * (16 : Int32)) = x2) (fX10_command_L131 tmo tk f fn x2 (nI n) 1 acted 4 ms mq mt mfl ans codes se) (fX10_command_L130 tmo tk f fn x2 (nI n) acted 4 ms mq mt mfl ans codes se)) (fX10_command_L130 tmo tk f fn x2 (nI n) acted 4 ms mq mt mfl ans codes se)) (fX10_command_L214 tmo tk f fn x2 (nI n) 0 acted 4 ms mq mt mfl ans codes se))) (fun o o' => (∃ s, s ≤ 249 ∧ o.1 = nI (s + 1) ∧ o'.2.1 = nI s) ∧ o.2.2.2.1 = o'.1 ∧ o.2.2.2.2.2.2.1 = o'.2.2.2.2.2.2.2.1 ∧ rSel o.2.2.2.2.1 o.2.2.2.2.2.1 o.2.2.2.2.2.2.2 o'.2.2.1 o'.2.2.2.1 o'.2.2.2.2.1 o'.2.2.2.2.2.2.2.2) := by
    rw [brc_t rfl, brc_t rfl, bnd_t rfl]
    exact ok2_ss ⟨⟨4, by decide, rfl, rfl⟩, rfl, rfl, hs⟩
  unfold fX8_isWellFormed fX8_isWellFormed_L29 fX8_isWellFormed_L61 fX8_isWellFormed_L62
  by_cases h6 : n < 6
  · rw [brc_t (show nI n < 6 from nI_lt (b := 6) h6 (by decide)), bnd_t rfl, brc_t (show nI n ≤ 5 from nI_le (b := 5) (by omega) (by decide))]
    exact bad
  · rw [brc_f (show ¬ nI n < 6 from nI_nlt (b := 6) (by omega) (by omega)), brc_f (show ¬ nI n ≤ 5 from nI_ge (a := 5) (by omega) (by omega)), grd_t (show vp_in 2 249 from vp_in_nI (n := 2) (by decide) (by decide)), grd_t (show vp_in 3 249 from vp_in_nI (n := 3) (by decide) (by decide)), grd_t (show vp_in 4 249 from vp_in_nI (n := 4) (by decide) (by decide)), grd_t (show vp_in 5 249 from vp_in_nI (n := 5) (by decide) (by decide)), ix2, ix3, ix4, ix5, hp 2 (by omega), hp 3 (by omega), hp 4 (by omega), hp 5 (by omega)]
    rw [grd_t (show isB 0 from Or.inl rfl), grd_t (show isB 1 from Or.inr rfl)]
    by_cases e2 : f 2 = 12
    · rw [brc_t e2, brc_t e2]
      by_cases e3 : f 3 = 1
      · rw [brc_t e3, brc_t e3]
        by_cases e4 : f 4 = 23
        · rw [brc_t e4, brc_t e4]
          by_cases e5 : f 5 < 1
          · rw [brc_t e5, brc_t e5, bnd_t rfl]
            exact bad
          · rw [brc_f e5, brc_f e5]
            by_cases e6 : 8 < f 5
            · rw [brc_t e6, brc_t e6, bnd_t rfl]
              exact bad
            · rw [brc_f e6, brc_f e6]
              by_cases e7 : nI n = (6 : Int32) + (12 : Int32) * f 5
              · rw [brc_t e7, brc_t e7, bnd_t rfl, brc_f (show ¬ (1 : Int32) = 0 by decide), brc_f (show ¬ (1 : Int32) = 0 by decide)]
                obtain ⟨r, hr⟩ : ∃ r, r = ix (f 5) := ⟨_, rfl⟩
                have h5 : f 5 = nI r := by rw [hr]; exact (byt_ix hb 5).2
                have hr1 : 1 ≤ r := by
                  rw [z_lt, h5, z_nI (by have := byt_ix hb 5; omega)] at e5
                  simp only [Int32.reduceToInt] at e5
                  omega
                have hr8 : r ≤ 8 := by
                  rw [z_lt, h5, z_nI (by have := byt_ix hb 5; omega)] at e6
                  simp only [Int32.reduceToInt] at e6
                  omega
                have hnr : n = 6 + 12 * r := by
                  rw [h5, show (12 : Int32) = nI 12 from rfl, show (6 : Int32) = nI 6 from rfl, pk_mul, nI_add] at e7
                  exact (nI_eq (by omega) (by omega)).mp e7
                -- from the standing on
                have go : ∀ (sd ms1 : Int32), (fn = 4 → ms1 = -1) → (fn ≠ 4 → rSel sl st cs ms1 mq mt se) → ok2 (fX9_control_L39 249 tk tmo p fn (nI n) sd 5 flt row acted sl st codes cs) (fX10_command_L214 tmo tk f fn x2 (nI n) sd acted 4 ms1 mq mt mfl ans codes se) (fun o o' => (∃ s, s ≤ 249 ∧ o.1 = nI (s + 1) ∧ o'.2.1 = nI s) ∧ o.2.2.2.1 = o'.1 ∧ o.2.2.2.2.2.2.1 = o'.2.2.2.2.2.2.2.1 ∧ rSel o.2.2.2.2.1 o.2.2.2.2.2.1 o.2.2.2.2.2.2.2 o'.2.2.1 o'.2.2.2.1 o'.2.2.2.2.1 o'.2.2.2.2.2.2.2.2) := by
                  intro sd ms1 hs4 hs1
                  unfold fX9_control_L39 fX10_command_L214
                  refine ok2_lc (c_range1 (k := 2) (a := 6) (al := 5) (by decide) (by decide) (by decide)) (fun u hu => ?_)
                  rw [hu]
                  obtain ⟨ans', ea⟩ := m_adds (tmo := tmo) (tk := tk) (x1 := fn) (x2 := x2) (x5 := sd) (x6 := 1) (ac := acted) (ms := ms1) (mq := mq) (mt := mt) (fl := mfl) (f := f) (rl := codes) (se := se) hn (n - 2) (4999 - (n - 2)) 2 4 ans (by omega) (by omega)
                  rw [show 4999 - (n - 2) + (n - 2) + 1 = FU by unfold FU; omega, show 4 + (n - 2) = n + 2 by omega] at ea
                  have el := r_ctl_loop (tk := tk) (tmo := tmo) (fn := fn) (x2 := x2) (sd := sd) (sl := sl) (st := st) (ms := ms1) (mq := mq) (mt := mt) (flt := flt) (mfl := mfl) (p := p) (f := f) (cs := cs) (se := se) hr1 hr8 hnr hp hb h5 hx hs4 hs1 r (4999 - r) (4999 - r) 0 1 acted codes u.2 ans' (by omega)
                  rw [show 4999 - r + r + 1 = FU by unfold FU; omega] at el
                  refine ok2_mono (show ok2 _ _ _ from ea ▸ el) (fun o o' ho => ⟨⟨n + 2, by omega, ho.1, ho.2.1⟩, ho.2.2.1, ho.2.2.2.1, ho.2.2.2.2⟩)
                by_cases h4 : fn = 4
                · obtain ⟨sd, g1, g2⟩ := r_stand (tmo := tmo) (tk := tk) (ac := acted) (as := 4) (fl := mfl) (ans := ans) (rl := codes) (n := n) (p := p) (by omega) (by omega) hp hx hs
                  subst h4
                  rw [brc_t rfl, brc_t rfl, bnd_t g1, g2]
                  unfold fX10_command_L207
                  exact go sd (-1) (fun _ => rfl) (fun q => absurd rfl q)
                · rw [brc_f h4, brc_f h4]
                  exact go 0 ms (fun q => absurd q h4) (fun _ => hs)
              · rw [brc_f e7, brc_f e7, bnd_t rfl]
                exact bad
        · rw [brc_f e4, brc_f e4, bnd_t rfl]
          exact bad
      · rw [brc_f e3, brc_f e3, bnd_t rfl]
        exact bad
    · rw [brc_f e2, brc_f e2, bnd_t rfl]
      exact bad
