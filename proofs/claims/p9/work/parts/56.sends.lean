/-! what is sent: how many bytes -/
theorem c_sti_tot_loop : ∀ (k n : Nat) (x : Int32), k ≤ 8 → ok (fX9_stirIn_L6 (n + k + 1) x (nI (8 - k))) (fun _ => True) := by
  intro k
  induction k with
  | zero =>
    intro n x hk
    rw [fX9_stirIn_L6_s, brc_t (by (first | exact Or.inl rfl | exact Or.inr rfl | assumption | (simp (disch := omega) only [z_le, z_lt, z_eq, vp_in_iff, z_nI, ix_nI, Int32.reduceToInt, ix0, ix1, ix2, ix3] <;> omega)))]
    exact ok_some trivial
  | succ k ih =>
    intro n x hk
    rw [show n + (k + 1) + 1 = (n + k + 1) + 1 by omega, fX9_stirIn_L6_s, brc_f (by (first | exact Or.inl rfl | exact Or.inr rfl | assumption | (simp (disch := omega) only [z_le, z_lt, z_eq, vp_in_iff, z_nI, ix_nI, Int32.reduceToInt, ix0, ix1, ix2, ix3] <;> omega)))]
    unfold fX9_stirIn_L31
    rw [nI_1, show 8 - (k + 1) + 1 = 8 - k by omega]
    exact ok_brc (fun _ => ih n _ (by omega)) (fun _ => ih n _ (by omega))
theorem c_sti_tot (x y : Int32) : ok (fX9_stirIn x y) (fun _ => True) := c_sti_tot_loop 8 (FU - 9) _ (by omega)
theorem m_fur_tot_loop : ∀ (k n : Nat) (x : Int32), k ≤ 8 → ok (fX10_further_L6 (n + k + 1) x (nI (8 - k))) (fun _ => True) := by
  intro k
  induction k with
  | zero =>
    intro n x hk
    rw [fX10_further_L6_s, brc_t (by (first | exact Or.inl rfl | exact Or.inr rfl | assumption | (simp (disch := omega) only [z_le, z_lt, z_eq, vp_in_iff, z_nI, ix_nI, Int32.reduceToInt, ix0, ix1, ix2, ix3] <;> omega)))]
    exact ok_some trivial
  | succ k ih =>
    intro n x hk
    rw [show n + (k + 1) + 1 = (n + k + 1) + 1 by omega, fX10_further_L6_s, brc_f (by (first | exact Or.inl rfl | exact Or.inr rfl | assumption | (simp (disch := omega) only [z_le, z_lt, z_eq, vp_in_iff, z_nI, ix_nI, Int32.reduceToInt, ix0, ix1, ix2, ix3] <;> omega)))]
    unfold fX10_further_L31
    rw [nI_1, show 8 - (k + 1) + 1 = 8 - k by omega]
    exact ok_brc (fun _ => ih n _ (by omega)) (fun _ => ih n _ (by omega))
theorem m_fur_tot (x y : Int32) : ok (fX10_further x y) (fun _ => True) := m_fur_tot_loop 8 (FU - 9) _ (by omega)
theorem c_ck_tot_loop {N : Nat} {f : Nat → Int32} (hN : N < 5000) : ∀ (k n a : Nat) (c : Int32), a + k ≤ N → ok (fX9_checkOf_L5 N f (n + k + 1) (nI (a + k)) c (nI a)) (fun _ => True) := by
  intro k
  induction k with
  | zero =>
    intro n a c ha
    rw [fX9_checkOf_L5_s, brc_t (by (first | exact Or.inl rfl | exact Or.inr rfl | assumption | (simp (disch := omega) only [z_le, z_lt, z_eq, vp_in_iff, z_nI, ix_nI, Int32.reduceToInt, ix0, ix1, ix2, ix3] <;> omega)))]
    exact ok_some trivial
  | succ k ih =>
    intro n a c ha
    rw [show n + (k + 1) + 1 = (n + k + 1) + 1 by omega, fX9_checkOf_L5_s, brc_f (by (first | exact Or.inl rfl | exact Or.inr rfl | assumption | (simp (disch := omega) only [z_le, z_lt, z_eq, vp_in_iff, z_nI, ix_nI, Int32.reduceToInt, ix0, ix1, ix2, ix3] <;> omega))), grd_t (by (first | exact Or.inl rfl | exact Or.inr rfl | assumption | (simp (disch := omega) only [z_le, z_lt, z_eq, vp_in_iff, z_nI, ix_nI, Int32.reduceToInt, ix0, ix1, ix2, ix3] <;> omega))), nI_1, show a + (k + 1) = (a + 1) + k by omega]
    exact ok_bnd (c_sti_tot _ _) (fun u _ => ih n (a + 1) u (by omega))
theorem c_ck_tot {N : Nat} {f : Nat → Int32} (hN : N < 4999) {a k : Nat} (h : a + k ≤ N) : ok (fX9_checkOf N f (nI a) (nI (a + k))) (fun _ => True) := by
  unfold fX9_checkOf
  rw [show FU = (4999 - k) + k + 1 by unfold FU; omega]
  exact c_ck_tot_loop (by omega) k _ a _ h
theorem m_ck_tot_loop {N : Nat} {f : Nat → Int32} (hN : N < 5000) : ∀ (k n a : Nat) (c : Int32), a + k ≤ N → ok (fX10_checkOf_L5 N f (n + k + 1) (nI (a + k)) c (nI a)) (fun _ => True) := by
  intro k
  induction k with
  | zero =>
    intro n a c ha
    rw [fX10_checkOf_L5_s, brc_t (by (first | exact Or.inl rfl | exact Or.inr rfl | assumption | (simp (disch := omega) only [z_le, z_lt, z_eq, vp_in_iff, z_nI, ix_nI, Int32.reduceToInt, ix0, ix1, ix2, ix3] <;> omega)))]
    exact ok_some trivial
  | succ k ih =>
    intro n a c ha
    rw [show n + (k + 1) + 1 = (n + k + 1) + 1 by omega, fX10_checkOf_L5_s, brc_f (by (first | exact Or.inl rfl | exact Or.inr rfl | assumption | (simp (disch := omega) only [z_le, z_lt, z_eq, vp_in_iff, z_nI, ix_nI, Int32.reduceToInt, ix0, ix1, ix2, ix3] <;> omega))), grd_t (by (first | exact Or.inl rfl | exact Or.inr rfl | assumption | (simp (disch := omega) only [z_le, z_lt, z_eq, vp_in_iff, z_nI, ix_nI, Int32.reduceToInt, ix0, ix1, ix2, ix3] <;> omega))), nI_1, show a + (k + 1) = (a + 1) + k by omega]
    exact ok_bnd (m_fur_tot _ _) (fun u _ => ih n (a + 1) u (by omega))
theorem m_ck_tot {N : Nat} {f : Nat → Int32} (hN : N < 4999) {a k : Nat} (h : a + k ≤ N) : ok (fX10_checkOf N f (nI a) (nI (a + k))) (fun _ => True) := by
  unfold fX10_checkOf
  rw [show FU = (4999 - k) + k + 1 by unfold FU; omega]
  exact m_ck_tot_loop (by omega) k _ a _ h
theorem c_put6 {x : Int32} {ol : Nat} {f : Nat → Int32} (h : ol < 4000) : ok (fX6_put x (nI ol) f) (fun o => o.1 = nI (ol + 1)) := by
  unfold fX6_put
  rw [nI_1]
  exact ok_grd (vp_in_nI h (by decide)) (ok_some rfl)
theorem c_two6 {x : Int32} {ol : Nat} {f : Nat → Int32} (h : ol + 2 ≤ 4000) : ok (fX6_putTwo x (nI ol) f) (fun o => o.1 = nI (ol + 2)) := by
  unfold fX6_putTwo
  refine ok_bnd (c_put6 (by omega)) (fun u hu => ?_)
  rw [hu]
  refine ok_bnd (c_put6 (by omega)) (fun v hv => ok_some ?_)
  exact hv
theorem c_head6 {a m x1 x2 : Int32} {ol : Nat} {f : Nat → Int32} (h : ol + 10 ≤ 4000) : ok (fX6_putHead a m x1 x2 (nI ol) f) (fun o => o.1 = nI (ol + 10)) := by
  unfold fX6_putHead
  refine ok_bnd (c_put6 (by omega)) (fun u1 h1 => ?_)
  rw [h1]
  refine ok_bnd (c_put6 (by omega)) (fun u2 h2 => ?_)
  rw [h2]
  refine ok_bnd (c_put6 (by omega)) (fun u3 h3 => ?_)
  rw [h3]
  refine ok_bnd (c_put6 (by omega)) (fun u4 h4 => ?_)
  rw [h4]
  refine ok_bnd (c_two6 (by omega)) (fun u5 h5 => ?_)
  rw [h5]
  refine ok_bnd (c_two6 (by omega)) (fun u6 h6 => ?_)
  rw [h6]
  refine ok_bnd (c_ck_tot (by decide) (k := 8) (by omega)) (fun u7 _ => ?_)
  refine ok_bnd (c_two6 (by omega)) (fun u8 h8 => ok_some ?_)
  exact h8
def fln (n : Nat) : Nat := 10 + n + 2 * ((n + 15) / 16)
def sndl (ol n : Nat) : Nat := if ol + fln n ≤ 4000 then ol + fln n else ol
theorem sndl_le {ol n : Nat} (h : ol ≤ 4000) : sndl ol n ≤ 4000 := by unfold sndl; split <;> omega
theorem c_room6 {ol n : Nat} (h : ol ≤ 4000) (hn : n ≤ 250) : ok (fX6_hasRoomFor (nI ol) (nI n)) (fun u => (u = 1 ∧ ol + fln n ≤ 4000) ∨ (u = 0 ∧ ¬ ol + fln n ≤ 4000)) := by
  unfold fX6_hasRoomFor fX6_hasRoomFor_L20
  have hf : fln n ≤ 292 := by unfold fln; omega
  rw [bnd_t (frl (by omega)), show 10 + n + 2 * ((n + 15) / 16) = fln n from rfl, nI_add]
  refine ok_brc (fun q => ok_grd (Or.inl rfl) (ok_some (Or.inr ⟨rfl, ?_⟩))) (fun q => ok_grd (Or.inr rfl) (ok_some (Or.inl ⟨rfl, ?_⟩)))
  · have := (nI_ltI (a := 4000) (by decide) (by omega)).mp q
    omega
  · exact Nat.le_of_not_lt (fun z => q (nI_lt (a := 4000) z (by omega)))
theorem c_reply {a m x : Int32} {ol : Nat} {f : Nat → Int32} (h : ol ≤ 4000) : ok (fX6_sendReply a m x (nI ol) f) (fun o => o.1 = nI (sndl ol 0)) := by
  unfold fX6_sendReply fX6_sendReply_L14
  refine ok_bnd (c_room6 (n := 0) h (by decide)) (fun u hu => ?_)
  unfold sndl
  rcases hu with ⟨rfl, hr⟩ | ⟨rfl, hr⟩
  · rw [brc_f (by decide), if_pos hr]
    refine ok_bnd (c_head6 (by unfold fln at hr; omega)) (fun v hv => ok_some ?_)
    exact hv
  · rw [brc_t rfl, if_neg hr]
    exact ok_some rfl
theorem c_block6 {p row : Nat → Int32} {s n ol : Nat} (hs : s + n ≤ 250) (ho : ol + n + 2 ≤ 4000) : ok (fX6_putBlock 250 p (nI s) (nI n) (nI ol) row) (fun o => o.1 = nI (ol + n + 2)) := by
  unfold fX6_putBlock
  rw [nI_add, pk_sub (by omega), show ol + n - n = ol by omega, ix_nI (by omega), ix_nI (by omega), ix_nI (by omega)]
  refine ok_grd ⟨nI_pos (by omega), nI_pos (by omega), nI_pos (by omega), hs, by omega⟩ ?_
  refine ok_bnd (c_ck_tot (by decide) (by omega)) (fun u _ => ?_)
  refine ok_bnd (c_two6 (by omega)) (fun v hv => ok_some ?_)
  exact hv
theorem c_sendA_loop {a m nx : Int32} {al : Nat} (ha : al ≤ 250) : ∀ (j p q ol : Nat) (row arow : Nat → Int32), q + j = (al + 15) / 16 → ol + (al - 16 * q) + 2 * j ≤ 4000 → ok (fX6_sendAnswer_L45 a m (nI al) (p + j + 1) (nI (16 * q)) (nI ol) nx row arow) (fun o => o.1 = nI (ol + (al - 16 * q) + 2 * j)) := by
  intro j
  induction j with
  | zero =>
    intro p q ol row arow hq ho
    rw [fX6_sendAnswer_L45_s]
    unfold fX0_size
    rw [bnd_t rfl, brc_t (by (first | exact Or.inl rfl | exact Or.inr rfl | assumption | (simp (disch := omega) only [z_le, z_lt, z_eq, vp_in_iff, z_nI, ix_nI, Int32.reduceToInt, ix0, ix1, ix2, ix3] <;> omega))), show ol + (al - 16 * q) + 2 * 0 = ol by omega]
    exact ok_some rfl
  | succ j ih =>
    intro p q ol row arow hq ho
    rw [show p + (j + 1) + 1 = (p + j + 1) + 1 by omega, fX6_sendAnswer_L45_s]
    unfold fX0_size fX0_bytes
    rw [bnd_t rfl, bnd_t rfl, bnd_t rfl, brc_f (by (first | exact Or.inl rfl | exact Or.inr rfl | assumption | (simp (disch := omega) only [z_le, z_lt, z_eq, vp_in_iff, z_nI, ix_nI, Int32.reduceToInt, ix0, ix1, ix2, ix3] <;> omega))), pk_sub (by omega), blk_if (by omega), show (if al - 16 * q < 16 then al - 16 * q else 16) = blkE al (16 * q) from rfl]
    have h1 := blkE_le al (16 * q)
    have h2 := blkE_le2 al (16 * q)
    refine ok_bnd (c_block6 (by omega) (by omega)) (fun u hu => ?_)
    rw [hu, show (16 : Int32) = nI 16 from rfl, nI_add, show 16 * q + 16 = 16 * (q + 1) by omega]
    have h3 : blkE al (16 * q) + (al - 16 * (q + 1)) = al - 16 * q := by
      rcases Nat.lt_or_ge al (16 * q + 16) with h | h
      · rw [blkE_lt (by omega)]; omega
      · rw [blkE_16 (by omega)]; omega
    refine ok_mono (ih p (q + 1) (ol + blkE al (16 * q) + 2) u.2 arow (by omega) (by omega)) (fun x hx => ?_)
    rw [hx, show ol + blkE al (16 * q) + 2 + (al - 16 * (q + 1)) + 2 * j = ol + (al - 16 * q) + 2 * (j + 1) by omega]
theorem c_sendA {a m nx : Int32} {al ol : Nat} {row arow : Nat → Int32} (ha : al ≤ 250) (ho : ol ≤ 4000) : ok (fX6_sendAnswer a m (nI al) (nI ol) nx row arow) (fun o => o.1 = nI (sndl ol al)) := by
  unfold fX6_sendAnswer fX0_size fX0_setNumber
  rw [bnd_t rfl]
  refine ok_bnd (c_room6 ho ha) (fun u hu => ?_)
  unfold sndl
  rcases hu with ⟨rfl, hr⟩ | ⟨rfl, hr⟩
  · rw [brc_f (by decide), if_pos hr, bnd_t rfl, bnd_t rfl]
    unfold fln at hr ⊢
    refine ok_bnd (c_head6 (by omega)) (fun v hv => ?_)
    rw [hv]
    have e := c_sendA_loop (a := a) (m := m) (nx := (nx + (1 : Int32)) &&& (63 : Int32)) ha ((al + 15) / 16) (4999 - (al + 15) / 16) 0 (ol + 10) v.2 (upd arow (ix (0 : Int32)) ((192 : Int32) ||| nx)) (by omega) (by omega)
    rw [show 4999 - (al + 15) / 16 + (al + 15) / 16 + 1 = FU by unfold FU; omega] at e
    refine ok_mono e (fun x hx => ?_)
    rw [hx]
    congr 1
    omega
  · rw [brc_t rfl, if_neg hr]
    exact ok_some rfl
theorem m_put {x : Int32} {a : Nat} {f : Nat → Int32} (h : a + 2 ≤ 300) : ok (fX10_put (nI a) x f) (fun _ => True) := by
  unfold fX10_put
  rw [nI_1]
  exact ok_grd (vp_in_nI (by omega) (by decide)) (ok_grd (vp_in_nI (by omega) (by decide)) (ok_some trivial))
theorem m_send_out {a m sn : Int32} {an : Nat → Int32} {frame : Nat → Int32} {ss t : Nat} (ht : ss + t ≤ 4000) (h3 : t ≤ 300) : ∀ (j p i : Nat) (sent : Nat → Int32), i + j = t → ok (fX10_send_L267 a m an (p + j + 1) (nI t) (nI i) (nI ss) sn frame sent) (fun o => o.1 = nI (ss + t)) := by
  intro j
  induction j with
  | zero =>
    intro p i sent hi
    have hi : i = t := hi
    subst hi
    rw [fX10_send_L267_s, brc_t (by (first | exact Or.inl rfl | exact Or.inr rfl | assumption | (simp (disch := omega) only [z_le, z_lt, z_eq, vp_in_iff, z_nI, ix_nI, Int32.reduceToInt, ix0, ix1, ix2, ix3] <;> omega))), nI_add]
    exact ok_some rfl
  | succ j ih =>
    intro p i sent hi
    rw [show p + (j + 1) + 1 = (p + j + 1) + 1 by omega, fX10_send_L267_s, brc_f (by (first | exact Or.inl rfl | exact Or.inr rfl | assumption | (simp (disch := omega) only [z_le, z_lt, z_eq, vp_in_iff, z_nI, ix_nI, Int32.reduceToInt, ix0, ix1, ix2, ix3] <;> omega))), nI_add, nI_1]
    exact ok_grd (vp_in_nI (by omega) (by decide)) (ok_grd (vp_in_nI (by omega) (by decide)) (ih p (i + 1) _ (by omega)))
theorem m_send_in {a m x2 ss sn : Int32} {an sent : Nat → Int32} {P : Int32 × Int32 × (Nat → Int32) × (Nat → Int32) → Prop} {k : Int32 → Int32 → Int32 → Int32 → Int32 → (Nat → Int32) → (Nat → Int32) → Option (Int32 × Int32 × (Nat → Int32) × (Nat → Int32))} {b c e : Nat} (hb : b + e + 2 ≤ 300) (hc : c + e ≤ 250) (hk : ∀ fr, ok (k x2 (nI (b + e + 2)) (nI (c + 16)) ss sn fr sent) P) : ∀ (j p i : Nat) (fr : Nat → Int32), i + j = e → ok (fX10_send_L138 a m an k (p + j + 1) x2 (nI b) (nI c) (nI e) (nI i) ss sn fr sent) P := by
  intro j
  induction j with
  | zero =>
    intro p i fr hi
    have hi : i = e := hi
    subst hi
    rw [fX10_send_L138_s, brc_t (by (first | exact Or.inl rfl | exact Or.inr rfl | assumption | (simp (disch := omega) only [z_le, z_lt, z_eq, vp_in_iff, z_nI, ix_nI, Int32.reduceToInt, ix0, ix1, ix2, ix3] <;> omega))), nI_add]
    refine ok_bnd (m_ck_tot (by decide) (by omega)) (fun u _ => ?_)
    refine ok_bnd (m_put (by omega)) (fun v _ => ?_)
    rw [show (2 : Int32) = nI 2 from rfl, show (16 : Int32) = nI 16 from rfl, nI_add, nI_add]
    exact hk v
  | succ j ih =>
    intro p i fr hi
    rw [show p + (j + 1) + 1 = (p + j + 1) + 1 by omega, fX10_send_L138_s, brc_f (by (first | exact Or.inl rfl | exact Or.inr rfl | assumption | (simp (disch := omega) only [z_le, z_lt, z_eq, vp_in_iff, z_nI, ix_nI, Int32.reduceToInt, ix0, ix1, ix2, ix3] <;> omega))), nI_add, nI_add]
    unfold fX10_send_L184
    rw [nI_1]
    refine ok_brc (fun _ => ok_grd (vp_in_nI (by omega) (by decide)) (ih p (i + 1) _ (by omega))) (fun h0 => ?_)
    have h0 : 1 ≤ c + i := Nat.one_le_iff_ne_zero.mpr (fun q => h0 (by rw [q]; rfl))
    rw [show (1 : Int32) = nI 1 from rfl, pk_sub h0]
    exact ok_grd (vp_in_nI (by omega) (by decide)) (ok_grd (vp_in_nI (by omega) (by decide)) (ih p (i + 1) _ (by omega)))
theorem m_send_loop {a m sn : Int32} {an sent : Nat → Int32} {many ss : Nat} (hm : many ≤ 250) (hs : ss ≤ 4000) : ∀ (j p q b : Nat) (fr : Nat → Int32), q + j = (many + 15) / 16 → b + (many - 16 * q) + 2 * j = fln many → ok (fX10_send_L109 a m an (p + j + 1) (nI many) (nI b) (nI (16 * q)) (nI ss) sn fr sent) (fun o => o.1 = nI (sndl ss many)) := by
  have hf : fln many ≤ 292 := by unfold fln; omega
  intro j
  induction j with
  | zero =>
    intro p q b fr hq hb
    have hb : b = fln many := by omega
    rw [fX10_send_L109_s, brc_t (by (first | exact Or.inl rfl | exact Or.inr rfl | assumption | (simp (disch := omega) only [z_le, z_lt, z_eq, vp_in_iff, z_nI, ix_nI, Int32.reduceToInt, ix0, ix1, ix2, ix3] <;> omega)))]
    have key : ∀ s0, ok (fX10_send_L249 a m an (nI b) s0 (nI ss) sn fr sent) (fun o => o.1 = nI (sndl ss many)) := by
      intro s0
      unfold fX10_send_L249 fX10_send_L308 sndl
      rw [nI_add, hb]
      by_cases h : ss + fln many ≤ 4000
      · rw [brc_f (fun q => by have := (nI_ltI (a := 4000) (by decide) (by omega)).mp q; omega), if_pos h]
        have e := m_send_out (a := a) (m := m) (an := an) (sn := s0) (frame := fr) (ss := ss) (t := fln many) h (by omega) (fln many) (4999 - fln many) 0 sent (by omega)
        rw [show 4999 - fln many + fln many + 1 = FU by unfold FU; omega] at e
        exact e
      · rw [brc_t (by (first | exact Or.inl rfl | exact Or.inr rfl | assumption | (simp (disch := omega) only [z_le, z_lt, z_eq, vp_in_iff, z_nI, ix_nI, Int32.reduceToInt, ix0, ix1, ix2, ix3] <;> omega))), if_neg h]
        exact ok_some rfl
    exact ok_brc (fun _ => key _) (fun _ => key _)
  | succ j ih =>
    intro p q b fr hq hb
    have h1 := blkE_le many (16 * q)
    have h2 := blkE_le2 many (16 * q)
    have h3 : blkE many (16 * q) + (many - 16 * (q + 1)) = many - 16 * q := by
      rcases Nat.lt_or_ge many (16 * q + 16) with h | h
      · rw [blkE_lt (by omega)]; omega
      · rw [blkE_16 (by omega)]; omega
    have key : ∀ s0, s0 = nI (blkE many (16 * q)) → ok (fX10_send_L133 a m an (fX10_send_L109 a m an (p + j + 1)) (nI many) (nI b) (nI (16 * q)) s0 (nI ss) sn fr sent) (fun o => o.1 = nI (sndl ss many)) := by
      intro s0 hs0
      subst hs0
      unfold fX10_send_L133
      have e := m_send_in (a := a) (m := m) (x2 := nI many) (ss := nI ss) (sn := sn) (an := an) (sent := sent) (k := fX10_send_L109 a m an (p + j + 1)) (b := b) (c := 16 * q) (e := blkE many (16 * q)) (P := fun o => o.1 = nI (sndl ss many)) (by omega) (by omega) (fun fr' => by
        rw [show 16 * q + 16 = 16 * (q + 1) by omega]
        exact ih p (q + 1) (b + blkE many (16 * q) + 2) fr' (by omega) (by omega)) (blkE many (16 * q)) (4999 - blkE many (16 * q)) 0 fr (by omega)
      rw [show 4999 - blkE many (16 * q) + blkE many (16 * q) + 1 = FU by unfold FU; omega] at e
      exact e
    rw [show p + (j + 1) + 1 = (p + j + 1) + 1 by omega, fX10_send_L109_s, brc_f (by (first | exact Or.inl rfl | exact Or.inr rfl | assumption | (simp (disch := omega) only [z_le, z_lt, z_eq, vp_in_iff, z_nI, ix_nI, Int32.reduceToInt, ix0, ix1, ix2, ix3] <;> omega))), pk_sub (by omega)]
    refine ok_brc (fun h => key _ ?_) (fun h => key _ ?_)
    · have h := (nI_leI (a := 16) (by decide) (by omega)).mp h
      rw [blkE_16 (by omega)]
      rfl
    · have h : ¬ 16 ≤ many - 16 * q := fun z => h (nI_le (a := 16) z (by omega))
      rw [blkE_lt (by omega)]
theorem m_send {a m x1 sn : Int32} {an frame sent : Nat → Int32} {many ss : Nat} (hm : many ≤ 250) (hs : ss ≤ 4000) : ok (fX10_send a m an x1 (nI many) (nI ss) sn frame sent) (fun o => o.1 = nI (sndl ss many)) := by
  unfold fX10_send
  refine ok_bnd (m_ck_tot (N := 300) (a := 0) (k := 8) (by decide) (by decide)) (fun u _ => ?_)
  refine ok_bnd (m_put (a := 8) (by decide)) (fun v _ => ?_)
  have e := m_send_loop (a := a) (m := m) (sn := sn) (an := an) (sent := sent) hm hs ((many + 15) / 16) (4999 - (many + 15) / 16) 0 10 v (by omega) (by unfold fln; omega)
  rw [show 4999 - (many + 15) / 16 + (many + 15) / 16 + 1 = FU by unfold FU; omega] at e
  exact e
