/-! the reference's look -/
theorem m_look_g {m_address : Int32} {m_master : Int32} {m_timeout : Int32} {m_ticks : Int32} {m_analogs : Nat → Int32} {m_binaries : Nat → Int32} {m_good : Int32} {m_bad : Int32} {m_foreign : Int32} {m_requests : Int32} {m_acts : Int32} {m_wasReset : Int32} {m_nextCount : Int32} {m_dataSize : Int32} {m_fragmentSize : Int32} {m_segment : Int32} {m_requestSize : Int32} {m_answerSize : Int32} {m_sentSize : Int32} {m_sentNumber : Int32} {m_restarted : Int32} {m_lost : Int32} {m_waits : Int32} {m_selectedSize : Int32} {m_selectedSequence : Int32} {m_selectedTime : Int32} {m_faults : Int32} {m_hasEvents : Int32} {m_hasBinaries : Int32} {m_hasAnalogs : Int32} {m_answer : Nat → Int32} {m_data : Nat → Int32} {m_eventCounts : Nat → Int32} {m_events : Nat → Int32} {m_fragment : Nat → Int32} {m_frame : Nat → Int32} {m_relays : Nat → Int32} {m_request : Nat → Int32} {m_selected : Nat → Int32} {m_sent : Nat → Int32} {len : Nat} {f : Nat → Int32} (hb : byt f) (hl : len ≤ 311) (h : gbg len f) : (fX10_look m_address m_master m_timeout m_ticks m_analogs m_binaries (nI len) m_good m_bad m_foreign m_requests m_acts m_wasReset m_nextCount m_dataSize m_fragmentSize m_segment m_requestSize m_answerSize m_sentSize m_sentNumber m_restarted m_lost m_waits m_selectedSize m_selectedSequence m_selectedTime m_faults m_hasEvents m_hasBinaries m_hasAnalogs m_answer m_data m_eventCounts m_events m_fragment m_frame m_relays m_request f m_selected m_sent) = some ((1 : Int32), nI (len - 1), m_good, m_bad, m_foreign, m_requests, m_acts, m_wasReset, m_nextCount, m_dataSize, m_fragmentSize, m_segment, m_requestSize, m_answerSize, m_sentSize, m_sentNumber, m_restarted, m_lost, m_waits, m_selectedSize, m_selectedSequence, m_selectedTime, m_faults, m_hasEvents, m_hasBinaries, m_hasAnalogs, m_answer, m_data, m_eventCounts, m_events, m_fragment, m_frame, m_relays, m_request, drp f 1 len, m_selected, m_sent) := by
  have ed : fX10_drop 1 (nI len) f = some (nI (len - 1), drp f 1 len) := m_drop (n := 1) (by have := h.1; omega) (by omega)
  have er : fX10_isRight 400 f 0 8 = some (ckR f 0 8) := m_right (a := 0) (k := 8) hb (by decide) (by decide)
  obtain ⟨h2, hn⟩ := h
  unfold fX10_look fX10_look_L31 fX10_look_L72
  rw [ix0, ix1, ix2, brc_t (by (first | exact Or.inl rfl | exact Or.inr rfl | assumption | (simp (disch := omega) only [z_le, z_lt, z_eq, vp_in_iff, z_nI, ix_nI, Int32.reduceToInt, ix0, ix1, ix2, ix3] <;> omega))), bnd_t ed]
  by_cases h0 : f 0 = 5
  · rw [brc_t h0]
    by_cases h1 : f 1 = 100
    · have h10 : 10 ≤ len := Nat.le_of_not_lt (fun q => hn ⟨h0, h1, Or.inl q⟩)
      rw [brc_t h1, brc_t (by (first | exact Or.inl rfl | exact Or.inr rfl | assumption | (simp (disch := omega) only [z_le, z_lt, z_eq, vp_in_iff, z_nI, ix_nI, Int32.reduceToInt, ix0, ix1, ix2, ix3] <;> omega)))]
      by_cases h5 : ix (f 2) < 5
      · rw [brc_t ((lt5 hb).mpr h5)]
      · rw [brc_f (fun q => h5 ((lt5 hb).mp q)), bnd_t er]
        rcases ckR_b f 0 8 with h4 | h4
        · rw [brc_t h4]
        · exact absurd ⟨h0, h1, Or.inr ⟨by omega, h4⟩⟩ hn
    · rw [brc_f h1]
  · rw [brc_f h0]
theorem m_look_w {m_address : Int32} {m_master : Int32} {m_timeout : Int32} {m_ticks : Int32} {m_analogs : Nat → Int32} {m_binaries : Nat → Int32} {m_good : Int32} {m_bad : Int32} {m_foreign : Int32} {m_requests : Int32} {m_acts : Int32} {m_wasReset : Int32} {m_nextCount : Int32} {m_dataSize : Int32} {m_fragmentSize : Int32} {m_segment : Int32} {m_requestSize : Int32} {m_answerSize : Int32} {m_sentSize : Int32} {m_sentNumber : Int32} {m_restarted : Int32} {m_lost : Int32} {m_waits : Int32} {m_selectedSize : Int32} {m_selectedSequence : Int32} {m_selectedTime : Int32} {m_faults : Int32} {m_hasEvents : Int32} {m_hasBinaries : Int32} {m_hasAnalogs : Int32} {m_answer : Nat → Int32} {m_data : Nat → Int32} {m_eventCounts : Nat → Int32} {m_events : Nat → Int32} {m_fragment : Nat → Int32} {m_frame : Nat → Int32} {m_relays : Nat → Int32} {m_request : Nat → Int32} {m_selected : Nat → Int32} {m_sent : Nat → Int32} {len : Nat} {f : Nat → Int32} (hb : byt f) (hl : len ≤ 311) (h : wtg len f) : (fX10_look m_address m_master m_timeout m_ticks m_analogs m_binaries (nI len) m_good m_bad m_foreign m_requests m_acts m_wasReset m_nextCount m_dataSize m_fragmentSize m_segment m_requestSize m_answerSize m_sentSize m_sentNumber m_restarted m_lost m_waits m_selectedSize m_selectedSequence m_selectedTime m_faults m_hasEvents m_hasBinaries m_hasAnalogs m_answer m_data m_eventCounts m_events m_fragment m_frame m_relays m_request f m_selected m_sent) = some ((0 : Int32), nI len, m_good, m_bad, m_foreign, m_requests, m_acts, m_wasReset, m_nextCount, m_dataSize, m_fragmentSize, m_segment, m_requestSize, m_answerSize, m_sentSize, m_sentNumber, m_restarted, m_lost, m_waits, m_selectedSize, m_selectedSequence, m_selectedTime, m_faults, m_hasEvents, m_hasBinaries, m_hasAnalogs, m_answer, m_data, m_eventCounts, m_events, m_fragment, m_frame, m_relays, m_request, f, m_selected, m_sent) := by
  have er : fX10_isRight 400 f 0 8 = some (ckR f 0 8) := m_right (a := 0) (k := 8) hb (by decide) (by decide)
  unfold fX10_look
  rw [ix0, ix1, ix2]
  by_cases h2 : len < 2
  · rw [brc_f (by (first | exact Or.inl rfl | exact Or.inr rfl | assumption | (simp (disch := omega) only [z_le, z_lt, z_eq, vp_in_iff, z_nI, ix_nI, Int32.reduceToInt, ix0, ix1, ix2, ix3] <;> omega)))]
  · rcases h with h | ⟨⟨h0, h1, hm⟩, h⟩
    · exact absurd h h2
    · rw [brc_t (by (first | exact Or.inl rfl | exact Or.inr rfl | assumption | (simp (disch := omega) only [z_le, z_lt, z_eq, vp_in_iff, z_nI, ix_nI, Int32.reduceToInt, ix0, ix1, ix2, ix3] <;> omega))), brc_t h0, brc_t h1]
      by_cases h10 : len < 10
      · rw [brc_f (by (first | exact Or.inl rfl | exact Or.inr rfl | assumption | (simp (disch := omega) only [z_le, z_lt, z_eq, vp_in_iff, z_nI, ix_nI, Int32.reduceToInt, ix0, ix1, ix2, ix3] <;> omega)))]
      · have hm : 5 ≤ ix (f 2) ∧ ckR f 0 8 = 1 := by
          rcases hm with q | q
          · exact absurd q h10
          · exact q
        have hw : len < whl f := by omega
        rw [brc_t (by (first | exact Or.inl rfl | exact Or.inr rfl | assumption | (simp (disch := omega) only [z_le, z_lt, z_eq, vp_in_iff, z_nI, ix_nI, Int32.reduceToInt, ix0, ix1, ix2, ix3] <;> omega))), brc_f (fun q => by have := (lt5 hb).mp q; omega), bnd_t er, brc_f (by rw [hm.2]; decide)]
        have hl := whl_le hb
        rw [mny_nI hb hm.1]
        have e : ((10 : Int32) + nI (mny f)) + ((2 : Int32) * ((nI (mny f) + (15 : Int32)) / (16 : Int32))) = nI (whl f) := by
          have := mny_le hb
          rw [show (16 : Int32) = nI 16 from rfl, show (10 : Int32) = nI 10 from rfl, show (15 : Int32) = nI 15 from rfl, show (2 : Int32) = nI 2 from rfl, nI_add, nI_add, pk_div (by omega) (by decide) (by decide), pk_mul, nI_add]
          rfl
        rw [e, brc_f (by (first | exact Or.inl rfl | exact Or.inr rfl | assumption | (simp (disch := omega) only [z_le, z_lt, z_eq, vp_in_iff, z_nI, ix_nI, Int32.reduceToInt, ix0, ix1, ix2, ix3] <;> omega)))]
noncomputable def ouI (a m : Int32) (f : Nat → Int32) : Int32 := @ite _ (ours a m f) (Classical.propDecidable _) 1 0
theorem m_two {f : Nat → Int32} (hb : byt f) (a : Nat) : f a + 256 * f (a + 1) = nI (two f a) := by
  have h1 := byt_ix hb a
  have h2 := byt_ix hb (a + 1)
  unfold two
  conv => lhs; rw [h1.2, h2.2]
  rw [show (256 : Int32) = nI 256 from rfl, pk_mul, nI_add]
theorem lt192 {f : Nat → Int32} (hb : byt f) : f 3 < 192 ↔ ix (f 3) < 192 := by
  have h := byt_ix hb 3
  have e := nI_ltI (a := ix (f 3)) (b := 192) (by omega) (by decide)
  rw [← h.2] at e
  exact e
theorem m_blk {m_address : Int32} {m_master : Int32} {m_timeout : Int32} {m_ticks : Int32} {m_analogs : Nat → Int32} {m_binaries : Nat → Int32} {x1 : Int32} {x2 : Int32} {x3 : Int32} {m_rowSize : Int32} {m_good : Int32} {m_bad : Int32} {m_foreign : Int32} {m_requests : Int32} {m_acts : Int32} {m_wasReset : Int32} {m_nextCount : Int32} {m_fragmentSize : Int32} {m_segment : Int32} {m_requestSize : Int32} {m_answerSize : Int32} {m_sentSize : Int32} {m_sentNumber : Int32} {m_restarted : Int32} {m_lost : Int32} {m_waits : Int32} {m_selectedSize : Int32} {m_selectedSequence : Int32} {m_selectedTime : Int32} {m_faults : Int32} {m_hasEvents : Int32} {m_hasBinaries : Int32} {m_hasAnalogs : Int32} {m_answer : Nat → Int32} {m_eventCounts : Nat → Int32} {m_events : Nat → Int32} {m_fragment : Nat → Int32} {m_frame : Nat → Int32} {m_relays : Nat → Int32} {m_request : Nat → Int32} {m_selected : Nat → Int32} {m_sent : Nat → Int32} {k : Int32 → Int32 → Int32 → Int32 → Int32 → Int32 → Int32 → Int32 → Int32 → Int32 → Int32 → Int32 → Int32 → Int32 → Int32 → Int32 → Int32 → Int32 → Int32 → Int32 → Int32 → Int32 → Int32 → Int32 → Int32 → Int32 → Int32 → Int32 → Int32 → (Nat → Int32) → (Nat → Int32) → (Nat → Int32) → (Nat → Int32) → (Nat → Int32) → (Nat → Int32) → (Nat → Int32) → (Nat → Int32) → (Nat → Int32) → (Nat → Int32) → (Nat → Int32) → Option (Int32 × Int32 × Int32 × Int32 × Int32 × Int32 × Int32 × Int32 × Int32 × Int32 × Int32 × Int32 × Int32 × Int32 × Int32 × Int32 × Int32 × Int32 × Int32 × Int32 × Int32 × Int32 × Int32 × Int32 × Int32 × Int32 × (Nat → Int32) × (Nat → Int32) × (Nat → Int32) × (Nat → Int32) × (Nat → Int32) × (Nat → Int32) × (Nat → Int32) × (Nat → Int32) × (Nat → Int32) × (Nat → Int32) × (Nat → Int32))} {f : Nat → Int32} {a s e : Nat} : ∀ (i p t : Nat) (d : Nat → Int32), t + i = e → a + e ≤ 390 → s + e ≤ 260 → (fX10_look_L186 m_address m_master m_timeout m_ticks m_analogs m_binaries k (p + i + 1) x1 x2 x3 (nI a) (nI e) (nI t) m_rowSize m_good m_bad m_foreign m_requests m_acts m_wasReset m_nextCount (nI s) m_fragmentSize m_segment m_requestSize m_answerSize m_sentSize m_sentNumber m_restarted m_lost m_waits m_selectedSize m_selectedSequence m_selectedTime m_faults m_hasEvents m_hasBinaries m_hasAnalogs m_answer (va_cpy f d a s t) m_eventCounts m_events m_fragment m_frame m_relays m_request f m_selected m_sent) = (k x1 x2 x3 (nI (a + e + 2)) m_rowSize m_good m_bad m_foreign m_requests m_acts m_wasReset m_nextCount (nI (s + e)) m_fragmentSize m_segment m_requestSize m_answerSize m_sentSize m_sentNumber m_restarted m_lost m_waits m_selectedSize m_selectedSequence m_selectedTime m_faults m_hasEvents m_hasBinaries m_hasAnalogs m_answer (va_cpy f d a s e) m_eventCounts m_events m_fragment m_frame m_relays m_request f m_selected m_sent) := by
  intro i
  induction i with
  | zero =>
    intro p t d ht h1 h2
    have ht : t = e := ht
    subst ht
    rw [fX10_look_L186_s, brc_t (by (first | exact Or.inl rfl | exact Or.inr rfl | assumption | (simp (disch := omega) only [z_le, z_lt, z_eq, vp_in_iff, z_nI, ix_nI, Int32.reduceToInt, ix0, ix1, ix2, ix3] <;> omega))), show (2 : Int32) = nI 2 from rfl, nI_add, nI_add, nI_add]
  | succ i ih =>
    intro p t d ht h1 h2
    rw [show p + (i + 1) + 1 = (p + i + 1) + 1 by omega, fX10_look_L186_s, brc_f (by (first | exact Or.inl rfl | exact Or.inr rfl | assumption | (simp (disch := omega) only [z_le, z_lt, z_eq, vp_in_iff, z_nI, ix_nI, Int32.reduceToInt, ix0, ix1, ix2, ix3] <;> omega))), nI_add, nI_add, grd_t (by (first | exact Or.inl rfl | exact Or.inr rfl | assumption | (simp (disch := omega) only [z_le, z_lt, z_eq, vp_in_iff, z_nI, ix_nI, Int32.reduceToInt, ix0, ix1, ix2, ix3] <;> omega))), grd_t (by (first | exact Or.inl rfl | exact Or.inr rfl | assumption | (simp (disch := omega) only [z_le, z_lt, z_eq, vp_in_iff, z_nI, ix_nI, Int32.reduceToInt, ix0, ix1, ix2, ix3] <;> omega))), nI_1, ix_nI (by omega), ix_nI (by omega), cpy_step]
    exact ih p (t + 1) d (by omega) h1 h2
theorem m_dat {m_address : Int32} {m_master : Int32} {m_timeout : Int32} {m_ticks : Int32} {m_analogs : Nat → Int32} {m_binaries : Nat → Int32} {x2 : Int32} {m_rowSize : Int32} {m_good : Int32} {m_bad : Int32} {m_foreign : Int32} {m_requests : Int32} {m_acts : Int32} {m_wasReset : Int32} {m_nextCount : Int32} {m_fragmentSize : Int32} {m_segment : Int32} {m_requestSize : Int32} {m_answerSize : Int32} {m_sentSize : Int32} {m_sentNumber : Int32} {m_restarted : Int32} {m_lost : Int32} {m_waits : Int32} {m_selectedSize : Int32} {m_selectedSequence : Int32} {m_selectedTime : Int32} {m_faults : Int32} {m_hasEvents : Int32} {m_hasBinaries : Int32} {m_hasAnalogs : Int32} {m_answer : Nat → Int32} {m_eventCounts : Nat → Int32} {m_events : Nat → Int32} {m_fragment : Nat → Int32} {m_frame : Nat → Int32} {m_relays : Nat → Int32} {m_request : Nat → Int32} {m_selected : Nat → Int32} {m_sent : Nat → Int32} {f : Nat → Int32} (hb : byt f) {many : Nat} (hm : many ≤ 250) : ∀ (j p q a s : Nat) (r : Int32) (d : Nat → Int32), isB r → q + j = (many + 15) / 16 → (j = 0 ∨ a = 10 + 18 * q) → ((j = 0 ∧ s = many) ∨ (0 < j ∧ s = 16 * q)) → ∃ a1, (fX10_look_L124 m_address m_master m_timeout m_ticks m_analogs m_binaries (p + j + 1) (nI many) x2 r (nI a) m_rowSize m_good m_bad m_foreign m_requests m_acts m_wasReset m_nextCount (nI s) m_fragmentSize m_segment m_requestSize m_answerSize m_sentSize m_sentNumber m_restarted m_lost m_waits m_selectedSize m_selectedSequence m_selectedTime m_faults m_hasEvents m_hasBinaries m_hasAnalogs m_answer d m_eventCounts m_events m_fragment m_frame m_relays m_request f m_selected m_sent) = (fX10_look_L124 m_address m_master m_timeout m_ticks m_analogs m_binaries (p + 1) (nI many) x2 ((cdat f many j (16 * q) a r d).1) (nI a1) m_rowSize m_good m_bad m_foreign m_requests m_acts m_wasReset m_nextCount (nI many) m_fragmentSize m_segment m_requestSize m_answerSize m_sentSize m_sentNumber m_restarted m_lost m_waits m_selectedSize m_selectedSequence m_selectedTime m_faults m_hasEvents m_hasBinaries m_hasAnalogs m_answer ((cdat f many j (16 * q) a r d).2) m_eventCounts m_events m_fragment m_frame m_relays m_request f m_selected m_sent) := by
  intro j
  induction j with
  | zero =>
    intro p q a s r d hr hq ha hs
    have hs : s = many := by omega
    subst hs
    exact ⟨a, rfl⟩
  | succ j ih =>
    intro p q a s r d hr hq ha hs
    have ha : a = 10 + 18 * q := by omega
    have hs : s = 16 * q := by omega
    subst hs
    have h1 := blkE_le many (16 * q)
    have h2 := blkE_le2 many (16 * q)
    have hj : j = 0 ∨ a + blkE many (16 * q) + 2 = 10 + 18 * (q + 1) := by
      rcases Nat.eq_zero_or_pos j with h | h
      · exact Or.inl h
      · right; rw [blkE_16 (by omega)]; omega
    have hs2 : (j = 0 ∧ 16 * q + blkE many (16 * q) = many) ∨ (0 < j ∧ 16 * q + blkE many (16 * q) = 16 * (q + 1)) := by
      rcases Nat.eq_zero_or_pos j with h | h
      · left; rw [blkE_lt (by omega)]; omega
      · right; rw [blkE_16 (by omega)]; omega
    have ih' := fun r' d' hr' => ih p (q + 1) (a + blkE many (16 * q) + 2) (16 * q + blkE many (16 * q)) r' d' hr' (by omega) hj hs2
    have key : (fX10_look_L124 m_address m_master m_timeout m_ticks m_analogs m_binaries (p + (j + 1) + 1) (nI many) x2 r (nI a) m_rowSize m_good m_bad m_foreign m_requests m_acts m_wasReset m_nextCount (nI (16 * q)) m_fragmentSize m_segment m_requestSize m_answerSize m_sentSize m_sentNumber m_restarted m_lost m_waits m_selectedSize m_selectedSequence m_selectedTime m_faults m_hasEvents m_hasBinaries m_hasAnalogs m_answer d m_eventCounts m_events m_fragment m_frame m_relays m_request f m_selected m_sent) = (fX10_look_L124 m_address m_master m_timeout m_ticks m_analogs m_binaries (p + j + 1) (nI many) x2 (if r = 0 then 0 else ckR f a (blkE many (16 * q))) (nI (a + blkE many (16 * q) + 2)) m_rowSize m_good m_bad m_foreign m_requests m_acts m_wasReset m_nextCount (nI (16 * q + blkE many (16 * q))) m_fragmentSize m_segment m_requestSize m_answerSize m_sentSize m_sentNumber m_restarted m_lost m_waits m_selectedSize m_selectedSequence m_selectedTime m_faults m_hasEvents m_hasBinaries m_hasAnalogs m_answer (va_cpy f d a (16 * q) (blkE many (16 * q))) m_eventCounts m_events m_fragment m_frame m_relays m_request f m_selected m_sent) := by
      have inner : ∀ r', (fX10_look_L182 m_address m_master m_timeout m_ticks m_analogs m_binaries (fX10_look_L124 m_address m_master m_timeout m_ticks m_analogs m_binaries (p + j + 1)) (nI many) x2 (nI a) (nI (blkE many (16 * q))) (r') m_rowSize m_good m_bad m_foreign m_requests m_acts m_wasReset m_nextCount (nI (16 * q)) m_fragmentSize m_segment m_requestSize m_answerSize m_sentSize m_sentNumber m_restarted m_lost m_waits m_selectedSize m_selectedSequence m_selectedTime m_faults m_hasEvents m_hasBinaries m_hasAnalogs m_answer d m_eventCounts m_events m_fragment m_frame m_relays m_request f m_selected m_sent) = (fX10_look_L124 m_address m_master m_timeout m_ticks m_analogs m_binaries (p + j + 1) (nI many) x2 (r') (nI (a + blkE many (16 * q) + 2)) m_rowSize m_good m_bad m_foreign m_requests m_acts m_wasReset m_nextCount (nI (16 * q + blkE many (16 * q))) m_fragmentSize m_segment m_requestSize m_answerSize m_sentSize m_sentNumber m_restarted m_lost m_waits m_selectedSize m_selectedSequence m_selectedTime m_faults m_hasEvents m_hasBinaries m_hasAnalogs m_answer (va_cpy f d a (16 * q) (blkE many (16 * q))) m_eventCounts m_events m_fragment m_frame m_relays m_request f m_selected m_sent) := by
        intro r'
        unfold fX10_look_L182
        have e := m_blk (k := (fX10_look_L124 m_address m_master m_timeout m_ticks m_analogs m_binaries (p + j + 1))) (f := f) (a := a) (s := 16 * q) (e := blkE many (16 * q))  (m_address := m_address) (m_master := m_master) (m_timeout := m_timeout) (m_ticks := m_ticks) (m_analogs := m_analogs) (m_binaries := m_binaries) (x1 := nI many) (x2 := x2) (x3 := r') (m_rowSize := m_rowSize) (m_good := m_good) (m_bad := m_bad) (m_foreign := m_foreign) (m_requests := m_requests) (m_acts := m_acts) (m_wasReset := m_wasReset) (m_nextCount := m_nextCount) (m_fragmentSize := m_fragmentSize) (m_segment := m_segment) (m_requestSize := m_requestSize) (m_answerSize := m_answerSize) (m_sentSize := m_sentSize) (m_sentNumber := m_sentNumber) (m_restarted := m_restarted) (m_lost := m_lost) (m_waits := m_waits) (m_selectedSize := m_selectedSize) (m_selectedSequence := m_selectedSequence) (m_selectedTime := m_selectedTime) (m_faults := m_faults) (m_hasEvents := m_hasEvents) (m_hasBinaries := m_hasBinaries) (m_hasAnalogs := m_hasAnalogs) (m_answer := m_answer) (m_eventCounts := m_eventCounts) (m_events := m_events) (m_fragment := m_fragment) (m_frame := m_frame) (m_relays := m_relays) (m_request := m_request) (m_selected := m_selected) (m_sent := m_sent) (blkE many (16 * q)) (4999 - blkE many (16 * q)) 0 d (by omega) (by omega) (by omega)
        rw [show 4999 - blkE many (16 * q) + blkE many (16 * q) + 1 = FU by unfold FU; omega, cpy_0] at e
        exact e
      have mid : ∀ s0, s0 = nI (blkE many (16 * q)) → (fX10_look_L154 m_address m_master m_timeout m_ticks m_analogs m_binaries (fX10_look_L124 m_address m_master m_timeout m_ticks m_analogs m_binaries (p + j + 1)) (nI many) x2 r (nI a) s0 m_rowSize m_good m_bad m_foreign m_requests m_acts m_wasReset m_nextCount (nI (16 * q)) m_fragmentSize m_segment m_requestSize m_answerSize m_sentSize m_sentNumber m_restarted m_lost m_waits m_selectedSize m_selectedSequence m_selectedTime m_faults m_hasEvents m_hasBinaries m_hasAnalogs m_answer d m_eventCounts m_events m_fragment m_frame m_relays m_request f m_selected m_sent) = (fX10_look_L124 m_address m_master m_timeout m_ticks m_analogs m_binaries (p + j + 1) (nI many) x2 (if r = 0 then 0 else ckR f a (blkE many (16 * q))) (nI (a + blkE many (16 * q) + 2)) m_rowSize m_good m_bad m_foreign m_requests m_acts m_wasReset m_nextCount (nI (16 * q + blkE many (16 * q))) m_fragmentSize m_segment m_requestSize m_answerSize m_sentSize m_sentNumber m_restarted m_lost m_waits m_selectedSize m_selectedSequence m_selectedTime m_faults m_hasEvents m_hasBinaries m_hasAnalogs m_answer (va_cpy f d a (16 * q) (blkE many (16 * q))) m_eventCounts m_events m_fragment m_frame m_relays m_request f m_selected m_sent) := by
        intro s0 hs0
        subst hs0
        unfold fX10_look_L154 fX10_look_L181
        rw [nI_add, bnd_t (m_right hb (by decide) (by omega))]
        by_cases h0 : r = 0
        · rw [brc_t h0, if_pos h0]
          exact inner 0
        · rw [brc_f h0, if_neg h0]
          rcases ckR_b f a (blkE many (16 * q)) with h3 | h3
          · rw [h3, brc_t rfl]
            exact inner 0
          · rw [h3, brc_f (by decide)]
            exact inner 1
      rw [show p + (j + 1) + 1 = (p + j + 1) + 1 by omega, fX10_look_L124_s, brc_f (by (first | exact Or.inl rfl | exact Or.inr rfl | assumption | (simp (disch := omega) only [z_le, z_lt, z_eq, vp_in_iff, z_nI, ix_nI, Int32.reduceToInt, ix0, ix1, ix2, ix3] <;> omega))), pk_sub (by omega)]
      by_cases h16 : 16 ≤ many - 16 * q
      · rw [brc_t (by (first | exact Or.inl rfl | exact Or.inr rfl | assumption | (simp (disch := omega) only [z_le, z_lt, z_eq, vp_in_iff, z_nI, ix_nI, Int32.reduceToInt, ix0, ix1, ix2, ix3] <;> omega)))]
        exact mid _ (by rw [blkE_16 (by omega)]; rfl)
      · rw [brc_f (by (first | exact Or.inl rfl | exact Or.inr rfl | assumption | (simp (disch := omega) only [z_le, z_lt, z_eq, vp_in_iff, z_nI, ix_nI, Int32.reduceToInt, ix0, ix1, ix2, ix3] <;> omega)))]
        exact mid _ (by rw [blkE_lt (by omega)])
    have hr2 : isB (if r = 0 then 0 else ckR f a (blkE many (16 * q))) := by
      split
      · exact Or.inl rfl
      · exact ckR_b _ _ _
    obtain ⟨a1, e1⟩ := ih' _ (va_cpy f d a (16 * q) (blkE many (16 * q))) hr2
    exact ⟨a1, key.trans e1⟩
theorem m_look_f {m_address : Int32} {m_master : Int32} {m_timeout : Int32} {m_ticks : Int32} {m_analogs : Nat → Int32} {m_binaries : Nat → Int32} {m_good : Int32} {m_bad : Int32} {m_foreign : Int32} {m_requests : Int32} {m_acts : Int32} {m_wasReset : Int32} {m_nextCount : Int32} {m_dataSize : Int32} {m_fragmentSize : Int32} {m_segment : Int32} {m_requestSize : Int32} {m_answerSize : Int32} {m_sentSize : Int32} {m_sentNumber : Int32} {m_restarted : Int32} {m_lost : Int32} {m_waits : Int32} {m_selectedSize : Int32} {m_selectedSequence : Int32} {m_selectedTime : Int32} {m_faults : Int32} {m_hasEvents : Int32} {m_hasBinaries : Int32} {m_hasAnalogs : Int32} {m_answer : Nat → Int32} {m_data : Nat → Int32} {m_eventCounts : Nat → Int32} {m_events : Nat → Int32} {m_fragment : Nat → Int32} {m_frame : Nat → Int32} {m_relays : Nat → Int32} {m_request : Nat → Int32} {m_selected : Nat → Int32} {m_sent : Nat → Int32} {len : Nat} {f : Nat → Int32} (hb : byt f) (hl : len ≤ 311) (h : frm len f) : (fX10_look m_address m_master m_timeout m_ticks m_analogs m_binaries (nI len) m_good m_bad m_foreign m_requests m_acts m_wasReset m_nextCount m_dataSize m_fragmentSize m_segment m_requestSize m_answerSize m_sentSize m_sentNumber m_restarted m_lost m_waits m_selectedSize m_selectedSequence m_selectedTime m_faults m_hasEvents m_hasBinaries m_hasAnalogs m_answer m_data m_eventCounts m_events m_fragment m_frame m_relays m_request f m_selected m_sent) = (fX10_look_L315 m_address m_master m_timeout m_ticks m_analogs m_binaries (nI (whl f)) ((fdat f m_data).1) (f 3) (ouI m_address m_master f) (nI len) m_good m_bad m_foreign m_requests m_acts m_wasReset m_nextCount (nI (mny f)) m_fragmentSize m_segment m_requestSize m_answerSize m_sentSize m_sentNumber m_restarted m_lost m_waits m_selectedSize m_selectedSequence m_selectedTime m_faults m_hasEvents m_hasBinaries m_hasAnalogs m_answer ((fdat f m_data).2) m_eventCounts m_events m_fragment m_frame m_relays m_request f m_selected m_sent) := by
  have er : fX10_isRight 400 f 0 8 = some (ckR f 0 8) := m_right (a := 0) (k := 8) hb (by decide) (by decide)
  obtain ⟨⟨h0, h1, hm⟩, h10, hw⟩ := h
  have hm : 5 ≤ ix (f 2) ∧ ckR f 0 8 = 1 := by
    rcases hm with q | q
    · omega
    · exact q
  unfold fX10_look
  rw [ix0, ix1, ix2, brc_t (by (first | exact Or.inl rfl | exact Or.inr rfl | assumption | (simp (disch := omega) only [z_le, z_lt, z_eq, vp_in_iff, z_nI, ix_nI, Int32.reduceToInt, ix0, ix1, ix2, ix3] <;> omega))), brc_t h0, brc_t h1, brc_t (by (first | exact Or.inl rfl | exact Or.inr rfl | assumption | (simp (disch := omega) only [z_le, z_lt, z_eq, vp_in_iff, z_nI, ix_nI, Int32.reduceToInt, ix0, ix1, ix2, ix3] <;> omega))), brc_f (fun q => by have := (lt5 hb).mp q; omega), bnd_t er, brc_f (by rw [hm.2]; decide), mny_nI hb hm.1]
  have hmn := mny_le hb
  have hwl := whl_le hb
  have e : ((10 : Int32) + nI (mny f)) + ((2 : Int32) * ((nI (mny f) + (15 : Int32)) / (16 : Int32))) = nI (whl f) := by
    rw [show (16 : Int32) = nI 16 from rfl, show (10 : Int32) = nI 10 from rfl, show (15 : Int32) = nI 15 from rfl, show (2 : Int32) = nI 2 from rfl, nI_add, nI_add, pk_div (by omega) (by decide) (by decide), pk_mul, nI_add]
    rfl
  rw [e, brc_t (by (first | exact Or.inl rfl | exact Or.inr rfl | assumption | (simp (disch := omega) only [z_le, z_lt, z_eq, vp_in_iff, z_nI, ix_nI, Int32.reduceToInt, ix0, ix1, ix2, ix3] <;> omega)))]
  obtain ⟨a1, ed⟩ := m_dat (m_address := m_address) (m_master := m_master) (m_timeout := m_timeout) (m_ticks := m_ticks) (m_analogs := m_analogs) (m_binaries := m_binaries) (x2 := nI (whl f)) (m_rowSize := nI len) (m_good := m_good) (m_bad := m_bad) (m_foreign := m_foreign) (m_requests := m_requests) (m_acts := m_acts) (m_wasReset := m_wasReset) (m_nextCount := m_nextCount) (m_fragmentSize := m_fragmentSize) (m_segment := m_segment) (m_requestSize := m_requestSize) (m_answerSize := m_answerSize) (m_sentSize := m_sentSize) (m_sentNumber := m_sentNumber) (m_restarted := m_restarted) (m_lost := m_lost) (m_waits := m_waits) (m_selectedSize := m_selectedSize) (m_selectedSequence := m_selectedSequence) (m_selectedTime := m_selectedTime) (m_faults := m_faults) (m_hasEvents := m_hasEvents) (m_hasBinaries := m_hasBinaries) (m_hasAnalogs := m_hasAnalogs) (m_answer := m_answer) (m_eventCounts := m_eventCounts) (m_events := m_events) (m_fragment := m_fragment) (m_frame := m_frame) (m_relays := m_relays) (m_request := m_request) (m_selected := m_selected) (m_sent := m_sent) (f := f) hb hmn ((mny f + 15) / 16) (4999 - (mny f + 15) / 16) 0 10 0 1 m_data (Or.inr rfl) (by omega) (Or.inr rfl) (by omega)
  rw [show 4999 - (mny f + 15) / 16 + (mny f + 15) / 16 + 1 = FU by unfold FU; omega] at ed
  refine Eq.trans ed ?_
  rw [fX10_look_L124_s, brc_t (by (first | exact Or.inl rfl | exact Or.inr rfl | assumption | (simp (disch := omega) only [z_le, z_lt, z_eq, vp_in_iff, z_nI, ix_nI, Int32.reduceToInt, ix0, ix1, ix2, ix3] <;> omega))), ix3, ix4, ix5, ix6, ix7, m_two hb 4, m_two hb 6]
  unfold fX10_look_L314 ouI
  show _ = (fX10_look_L315 m_address m_master m_timeout m_ticks m_analogs m_binaries (nI (whl f)) ((cdat f (mny f) ((mny f + 15) / 16) (16 * 0) 10 1 m_data).1) (f 3) (@ite _ (ours m_address m_master f) (Classical.propDecidable _) 1 0) (nI len) m_good m_bad m_foreign m_requests m_acts m_wasReset m_nextCount (nI (mny f)) m_fragmentSize m_segment m_requestSize m_answerSize m_sentSize m_sentNumber m_restarted m_lost m_waits m_selectedSize m_selectedSequence m_selectedTime m_faults m_hasEvents m_hasBinaries m_hasAnalogs m_answer ((cdat f (mny f) ((mny f + 15) / 16) (16 * 0) 10 1 m_data).2) m_eventCounts m_events m_fragment m_frame m_relays m_request f m_selected m_sent)
  by_cases o1 : nI (two f 4) = m_address
  · rw [brc_t o1]
    by_cases o2 : nI (two f 6) = m_master
    · rw [brc_t o2]
      by_cases o3 : ix (f 3) < 192
      · rw [brc_t ((lt192 hb).mpr o3), if_neg (fun q : ours m_address m_master f => by have := q.2.2; omega)]
      · rw [brc_f (fun q => o3 ((lt192 hb).mp q)), if_pos (show ours m_address m_master f from ⟨o1, o2, by omega⟩)]
    · rw [brc_f o2, if_neg (fun q : ours m_address m_master f => o2 q.2.1)]
  · rw [brc_f o1, if_neg (fun q : ours m_address m_master f => o1 q.1)]
