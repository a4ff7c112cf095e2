/-! the row's head: nothing, waiting, a frame -/
def mayB (len : Nat) (f : Nat → Int32) : Prop := f 0 = 5 ∧ f 1 = 100 ∧ (len < 10 ∨ (5 ≤ ix (f 2) ∧ ckR f 0 8 = 1))
def gbg (len : Nat) (f : Nat → Int32) : Prop := 2 ≤ len ∧ ¬ mayB len f
def wtg (len : Nat) (f : Nat → Int32) : Prop := len < 2 ∨ (mayB len f ∧ (len < 10 ∨ len < whl f))
def frm (len : Nat) (f : Nat → Int32) : Prop := mayB len f ∧ 10 ≤ len ∧ whl f ≤ len
def trl : Nat → Nat → (Nat → Int32) → (Nat → Int32) → Prop
  | 0, _, f, f1 => f1 = f
  | j + 1, len, f, f1 => gbg len f ∧ trl j (len - 1) (drp f 1 len) f1
theorem lt5 {f : Nat → Int32} (hb : byt f) : f 2 < 5 ↔ ix (f 2) < 5 := by
  have h := byt_ix hb 2
  have e := nI_ltI (a := ix (f 2)) (b := 5) (by omega) (by decide)
  rw [← h.2] at e
  exact e
theorem c_may {len : Nat} {f : Nat → Int32} (hb : byt f) (hl : len ≤ 311) : ok (fX4_mayBeginFrame (nI len) f) (fun u => (u = 1 ∧ mayB len f) ∨ (u = 0 ∧ ¬ mayB len f)) := by
  unfold fX4_mayBeginFrame fX4_mayBeginFrame_L52 fX4_mayBeginFrame_L56 fX4_mayBeginFrame_L57 fX4_mayBeginFrame_L21
  rw [ix0, ix1, ix2]
  have er : fX4_isCheckRight f 0 8 = some (ckR f 0 8) := c_right (a := 0) (k := 8) hb (by decide)
  refine ok_brc (fun h0 => ok_brc (fun h1 => ok_brc (fun h2 => ?_) (fun h2 => ok_brc (fun h3 => ?_) (fun h3 => ?_))) (fun h1 => ?_)) (fun h0 => ?_)
  · have h2 : len < 10 := (nI_ltI (b := 10) (by omega) (by decide)).mp h2
    exact ok_grd (Or.inr rfl) (ok_some (Or.inl ⟨rfl, h0, h1, Or.inl h2⟩))
  · have h2 : ¬ len < 10 := fun q => h2 ((nI_ltI (b := 10) (by omega) (by decide)).mpr q)
    have h3 := (lt5 hb).mp h3
    exact ok_grd (Or.inl rfl) (ok_some (Or.inr ⟨rfl, fun q => by rcases q.2.2 with q | q <;> omega⟩))
  · have h2 : ¬ len < 10 := fun q => h2 ((nI_ltI (b := 10) (by omega) (by decide)).mpr q)
    have h3 : ¬ ix (f 2) < 5 := fun q => h3 ((lt5 hb).mpr q)
    rw [bnd_t er]
    rcases ckR_b f 0 8 with h4 | h4
    · rw [brc_t h4]
      exact ok_grd (Or.inl rfl) (ok_some (Or.inr ⟨rfl, fun q => by
        rcases q.2.2 with q | q
        · omega
        · rw [h4] at q; exact absurd q.2 (by decide)⟩))
    · rw [brc_f (by rw [h4]; decide)]
      exact ok_grd (Or.inr rfl) (ok_some (Or.inl ⟨rfl, h0, h1, Or.inr ⟨by omega, h4⟩⟩))
  · exact ok_some (Or.inr ⟨rfl, fun q => h1 q.2.1⟩)
  · exact ok_some (Or.inr ⟨rfl, fun q => h0 q.1⟩)
theorem c_next_loop {a m dl ct : Int32} {d : Nat → Int32} : ∀ (len k : Nat) (f : Nat → Int32), len ≤ 311 → byt f → ∃ j f1, byt f1 ∧ j ≤ len ∧ trl j len f f1 ∧ ((wtg (len - j) f1 ∧ fX4_nextFrame_L5 a m (k + len + 1) (nI len) (nI len) dl ct d f = some (0, nI (len - j), dl, ct, d, f1)) ∨ (frm (len - j) f1 ∧ fX4_nextFrame_L5 a m (k + len + 1) (nI len) (nI len) dl ct d f = some (kd a m f1 (fdat f1 d).1, nI (len - j - whl f1), nI (mny f1), f1 3, (fdat f1 d).2, drp f1 (whl f1) (len - j)))) := by
  intro len
  induction len with
  | zero =>
    intro k f hl hb
    refine ⟨0, f, hb, Nat.le_refl _, rfl, Or.inl ⟨Or.inl (by omega), ?_⟩⟩
    rw [fX4_nextFrame_L5_s, brc_t (by (first | exact Or.inl rfl | exact Or.inr rfl | assumption | (simp (disch := omega) only [z_le, z_lt, z_eq, vp_in_iff, z_nI, ix_nI, Int32.reduceToInt, ix0, ix1, ix2, ix3] <;> omega)))]
  | succ len ih =>
    intro k f hl hb
    rw [show k + (len + 1) + 1 = (k + len + 1) + 1 by omega, fX4_nextFrame_L5_s]
    by_cases h2 : len + 1 < 2
    · refine ⟨0, f, hb, Nat.zero_le _, rfl, Or.inl ⟨Or.inl (by omega), ?_⟩⟩
      rw [brc_t (by (first | exact Or.inl rfl | exact Or.inr rfl | assumption | (simp (disch := omega) only [z_le, z_lt, z_eq, vp_in_iff, z_nI, ix_nI, Int32.reduceToInt, ix0, ix1, ix2, ix3] <;> omega)))]
      rfl
    · obtain ⟨u, eu, hu⟩ := c_may (len := len + 1) hb hl
      rw [brc_f (by (first | exact Or.inl rfl | exact Or.inr rfl | assumption | (simp (disch := omega) only [z_le, z_lt, z_eq, vp_in_iff, z_nI, ix_nI, Int32.reduceToInt, ix0, ix1, ix2, ix3] <;> omega))), bnd_t eu]
      rcases hu with ⟨rfl, hy⟩ | ⟨rfl, hn⟩
      · rw [brc_f (show ¬ (1 : Int32) = 0 by decide)]
        unfold fX4_nextFrame_L48 fX4_nextFrame_L49 fX4_nextFrame_L62
        by_cases h10 : len + 1 < 10
        · refine ⟨0, f, hb, Nat.zero_le _, rfl, Or.inl ⟨Or.inr ⟨hy, Or.inl h10⟩, ?_⟩⟩
          rw [brc_t (by (first | exact Or.inl rfl | exact Or.inr rfl | assumption | (simp (disch := omega) only [z_le, z_lt, z_eq, vp_in_iff, z_nI, ix_nI, Int32.reduceToInt, ix0, ix1, ix2, ix3] <;> omega))), brc_t rfl]
          rfl
        · have h5 : 5 ≤ ix (f 2) := by
            rcases hy.2.2 with q | q
            · exact absurd q h10
            · exact q.1
          have hm := mny_le hb
          rw [brc_f (by (first | exact Or.inl rfl | exact Or.inr rfl | assumption | (simp (disch := omega) only [z_le, z_lt, z_eq, vp_in_iff, z_nI, ix_nI, Int32.reduceToInt, ix0, ix1, ix2, ix3] <;> omega))), ix2, mny_nI hb h5, bnd_t (frl (by omega)), show 10 + mny f + 2 * ((mny f + 15) / 16) = whl f from rfl]
          have hw := whl_le hb
          by_cases hlt : len + 1 < whl f
          · refine ⟨0, f, hb, Nat.zero_le _, rfl, Or.inl ⟨Or.inr ⟨hy, Or.inr hlt⟩, ?_⟩⟩
            rw [brc_t (by (first | exact Or.inl rfl | exact Or.inr rfl | assumption | (simp (disch := omega) only [z_le, z_lt, z_eq, vp_in_iff, z_nI, ix_nI, Int32.reduceToInt, ix0, ix1, ix2, ix3] <;> omega))), brc_t rfl]
            rfl
          · refine ⟨0, f, hb, Nat.zero_le _, rfl, Or.inr ⟨⟨hy, by omega, by omega⟩, ?_⟩⟩
            rw [brc_f (by (first | exact Or.inl rfl | exact Or.inr rfl | assumption | (simp (disch := omega) only [z_le, z_lt, z_eq, vp_in_iff, z_nI, ix_nI, Int32.reduceToInt, ix0, ix1, ix2, ix3] <;> omega))), brc_f (show ¬ (1 : Int32) = 0 by decide), bnd_t (c_take hb h5 hl (by omega))]
            rfl
      · rw [brc_t rfl, show (1 : Int32) = nI 1 from rfl, bnd_t (c_drop (n := 1) (by omega) hl)]
        dsimp only
        rw [show -nI 1 = (-1 : Int32) from rfl, pk_m1, show len + 1 - 1 = len by omega]
        obtain ⟨j, f1, hb1, hj, ht, hh⟩ := ih k (drp f 1 (len + 1)) (by omega) (byt_drp hb)
        refine ⟨j + 1, f1, hb1, by omega, ⟨⟨by omega, hn⟩, ?_⟩, ?_⟩
        · rw [show len + 1 - 1 = len by omega]; exact ht
        · rw [show len + 1 - (j + 1) = len - j by omega]; exact hh
theorem c_next {a m dl ct : Int32} {d : Nat → Int32} {len : Nat} {f : Nat → Int32} (hl : len ≤ 311) (hb : byt f) : ∃ j f1, byt f1 ∧ j ≤ len ∧ trl j len f f1 ∧ ((wtg (len - j) f1 ∧ fX4_nextFrame a m (nI len) dl ct d f = some (0, nI (len - j), dl, ct, d, f1)) ∨ (frm (len - j) f1 ∧ fX4_nextFrame a m (nI len) dl ct d f = some (kd a m f1 (fdat f1 d).1, nI (len - j - whl f1), nI (mny f1), f1 3, (fdat f1 d).2, drp f1 (whl f1) (len - j)))) := by
  have e := c_next_loop (a := a) (m := m) (dl := dl) (ct := ct) (d := d) len (4999 - len) f hl hb
  rw [show 4999 - len + len + 1 = FU by unfold FU; omega] at e
  exact e
