/-! fragments -/
def rAsm (cl op nu : Int32) (cf : Nat → Int32) (fs sg : Int32) (mf : Nat → Int32) : Prop :=
  byt cf ∧ byt mf ∧ ((op = 0 ∧ fs = -1) ∨ (op = 1 ∧ ∃ n : Nat, n ≤ 249 ∧ cl = nI n ∧ fs = nI n ∧ nu = sg ∧ 0 ≤ sg.toInt ∧ sg.toInt < 64 ∧ ∀ i, i < n → cf i = mf i))
theorem b64 : ∀ b : Nat, b < 256 → ((((nI b >>> ((6 : Int32) &&& 31)) &&& 1) = 1) ↔ ¬ ((nI b &&& 64) = 0)) := by decide +kernel
theorem b128 : ∀ b : Nat, b < 256 → ((nI b ≤ 127) ↔ ((nI b &&& 128) = 0)) := by decide +kernel
theorem byt64 {f : Nat → Int32} (hb : byt f) (i : Nat) : (((f i >>> ((6 : Int32) &&& 31)) &&& 1) = 1) ↔ ¬ ((f i &&& 64) = 0) := by
  have h := byt_ix hb i
  have e := b64 (ix (f i)) h.1
  rw [← h.2] at e
  exact e
theorem byt128 {f : Nat → Int32} (hb : byt f) (i : Nat) : (f i ≤ 127) ↔ ((f i &&& 128) = 0) := by
  have h := byt_ix hb i
  have e := b128 (ix (f i)) h.1
  rw [← h.2] at e
  exact e
theorem byt63 {f : Nat → Int32} (hb : byt f) (i : Nat) : 0 ≤ (f i &&& 63).toInt ∧ (f i &&& 63).toInt < 64 := by
  rw [z_and63]
  omega
theorem sg64 : ∀ b : Nat, b < 64 → ((nI b + 1) - (nI b + 1) / 64 * 64) = ((nI b + 1) &&& 63) := by decide +kernel
theorem seg64 {s : Int32} (h0 : 0 ≤ s.toInt) (h1 : s.toInt < 64) : ((s + 1) - (s + 1) / 64 * 64) = ((s + 1) &&& 63) := by
  have e := sg64 (ix s) (by rw [z_ix]; omega)
  rw [← z_of h0] at e
  exact e
theorem lt192i {f : Nat → Int32} (hb : byt f) (i : Nat) : f i < 192 ↔ ¬ (f i &&& 192) = 192 := by
  have h := byt_ix hb i
  have e := nI_ltI (a := ix (f i)) (b := 192) (by omega) (by decide)
  rw [← h.2] at e
  rw [byt192 hb i]
  exact e.trans (by omega)
theorem m_frag {m_address : Int32} {m_master : Int32} {m_timeout : Int32} {m_ticks : Int32} {m_analogs : Nat → Int32} {m_binaries : Nat → Int32} {x1 : Int32} {m_requests : Int32} {m_acts : Int32} {m_segment : Int32} {m_requestSize : Int32} {m_answerSize : Int32} {m_sentSize : Int32} {m_sentNumber : Int32} {m_restarted : Int32} {m_lost : Int32} {m_waits : Int32} {m_selectedSize : Int32} {m_selectedSequence : Int32} {m_selectedTime : Int32} {m_faults : Int32} {m_hasEvents : Int32} {m_hasBinaries : Int32} {m_hasAnalogs : Int32} {m_answer : Nat → Int32} {m_eventCounts : Nat → Int32} {m_events : Nat → Int32} {m_frame : Nat → Int32} {m_relays : Nat → Int32} {m_request : Nat → Int32} {m_selected : Nat → Int32} {m_sent : Nat → Int32} {d mf : Nat → Int32} {n s : Nat} (hn : n ≤ 250) (hs : s ≤ 249) : ∀ (j p k : Nat), k + j = n → 1 ≤ k → (fX10_takeData_L106 m_address m_master m_timeout m_ticks (nI n) m_analogs m_binaries d (p + j + 1) x1 (nI k) m_requests m_acts (nI (s + (k - 1))) m_segment m_requestSize m_answerSize m_sentSize m_sentNumber m_restarted m_lost m_waits m_selectedSize m_selectedSequence m_selectedTime m_faults m_hasEvents m_hasBinaries m_hasAnalogs m_answer m_eventCounts m_events (va_cpy d mf 1 s (k - 1)) m_frame m_relays m_request m_selected m_sent) = (fX10_takeData_L106 m_address m_master m_timeout m_ticks (nI n) m_analogs m_binaries d (p + 1) x1 (nI n) m_requests m_acts (nI (s + (n - 1))) m_segment m_requestSize m_answerSize m_sentSize m_sentNumber m_restarted m_lost m_waits m_selectedSize m_selectedSequence m_selectedTime m_faults m_hasEvents m_hasBinaries m_hasAnalogs m_answer m_eventCounts m_events (va_cpy d mf 1 s (n - 1)) m_frame m_relays m_request m_selected m_sent) := by
  intro j
  induction j with
  | zero =>
    intro p k hk h1
    have hk : k = n := hk
    subst hk
    rfl
  | succ j ih =>
    intro p k hk h1
    rw [show p + (j + 1) + 1 = (p + j + 1) + 1 by omega, fX10_takeData_L106_s, brc_f (by (first | exact Or.inl rfl | exact Or.inr rfl | assumption | (simp (disch := omega) only [z_le, z_lt, z_eq, vp_in_iff, z_nI, ix_nI, Int32.reduceToInt, ix0, ix1, ix2, ix3] <;> omega))), grd_t (by (first | exact Or.inl rfl | exact Or.inr rfl | assumption | (simp (disch := omega) only [z_le, z_lt, z_eq, vp_in_iff, z_nI, ix_nI, Int32.reduceToInt, ix0, ix1, ix2, ix3] <;> omega))), grd_t (by (first | exact Or.inl rfl | exact Or.inr rfl | assumption | (simp (disch := omega) only [z_le, z_lt, z_eq, vp_in_iff, z_nI, ix_nI, Int32.reduceToInt, ix0, ix1, ix2, ix3] <;> omega))), nI_1, nI_1, ix_nI (by omega), ix_nI (by omega)]
    have e := cpy_step (f := d) (g := mf) (sp := 1) (dp := s) (k := k - 1)
    rw [show 1 + (k - 1) = k by omega, show k - 1 + 1 = k by omega] at e
    rw [e]
    have ih' := ih p (k + 1) (by omega) (by omega)
    rw [show k + 1 - 1 = k by omega] at ih'
    rw [show s + (k - 1) + 1 = s + k by omega]
    exact ih'
theorem m_seg_end {m_address : Int32} {m_master : Int32} {m_timeout : Int32} {m_ticks : Int32} {m_analogs : Nat → Int32} {m_binaries : Nat → Int32} {m_requests : Int32} {m_acts : Int32} {m_fragmentSize : Int32} {m_segment : Int32} {m_requestSize : Int32} {m_answerSize : Int32} {m_sentSize : Int32} {m_sentNumber : Int32} {m_restarted : Int32} {m_lost : Int32} {m_waits : Int32} {m_selectedSize : Int32} {m_selectedSequence : Int32} {m_selectedTime : Int32} {m_faults : Int32} {m_hasEvents : Int32} {m_hasBinaries : Int32} {m_hasAnalogs : Int32} {m_answer : Nat → Int32} {m_eventCounts : Nat → Int32} {m_events : Nat → Int32} {m_fragment : Nat → Int32} {m_frame : Nat → Int32} {m_relays : Nat → Int32} {m_request : Nat → Int32} {m_selected : Nat → Int32} {m_sent : Nat → Int32} {h : Int32} {d : Nat → Int32} {n s : Nat} (hn : n ≤ 250) (h1 : 1 ≤ n) (hs : s ≤ 249) : (fX10_takeData_L92 m_address m_master m_timeout m_ticks (nI n) m_analogs m_binaries d h (nI s) m_requests m_acts m_fragmentSize m_segment m_requestSize m_answerSize m_sentSize m_sentNumber m_restarted m_lost m_waits m_selectedSize m_selectedSequence m_selectedTime m_faults m_hasEvents m_hasBinaries m_hasAnalogs m_answer m_eventCounts m_events m_fragment m_frame m_relays m_request m_selected m_sent) = (fX10_takeData_L106 m_address m_master m_timeout m_ticks (nI n) m_analogs m_binaries d (4999 - (n - 1) + 1) h (nI n) m_requests m_acts (nI (s + (n - 1))) (h &&& (63 : Int32)) m_requestSize m_answerSize m_sentSize m_sentNumber m_restarted m_lost m_waits m_selectedSize m_selectedSequence m_selectedTime m_faults m_hasEvents m_hasBinaries m_hasAnalogs m_answer m_eventCounts m_events (va_cpy d m_fragment 1 s (n - 1)) m_frame m_relays m_request m_selected m_sent) := by
  unfold fX10_takeData_L92
  have e := m_frag (m_address := m_address) (m_master := m_master) (m_timeout := m_timeout) (m_ticks := m_ticks) (m_analogs := m_analogs) (m_binaries := m_binaries) (x1 := h) (m_requests := m_requests) (m_acts := m_acts) (m_segment := h &&& (63 : Int32)) (m_requestSize := m_requestSize) (m_answerSize := m_answerSize) (m_sentSize := m_sentSize) (m_sentNumber := m_sentNumber) (m_restarted := m_restarted) (m_lost := m_lost) (m_waits := m_waits) (m_selectedSize := m_selectedSize) (m_selectedSequence := m_selectedSequence) (m_selectedTime := m_selectedTime) (m_faults := m_faults) (m_hasEvents := m_hasEvents) (m_hasBinaries := m_hasBinaries) (m_hasAnalogs := m_hasAnalogs) (m_answer := m_answer) (m_eventCounts := m_eventCounts) (m_events := m_events) (m_frame := m_frame) (m_relays := m_relays) (m_request := m_request) (m_selected := m_selected) (m_sent := m_sent) (d := d) (mf := m_fragment) hn hs (n - 1) (4999 - (n - 1)) 1 (by omega) (Nat.le_refl _)
  rw [show 4999 - (n - 1) + (n - 1) + 1 = FU by unfold FU; omega, show 1 - 1 = 0 from rfl, cpy_0, Nat.add_zero] at e
  exact e
theorem m_seg_over {m_address : Int32} {m_master : Int32} {m_timeout : Int32} {m_ticks : Int32} {m_analogs : Nat → Int32} {m_binaries : Nat → Int32} {m_requests : Int32} {m_acts : Int32} {m_fragmentSize : Int32} {m_segment : Int32} {m_requestSize : Int32} {m_answerSize : Int32} {m_sentSize : Int32} {m_sentNumber : Int32} {m_restarted : Int32} {m_lost : Int32} {m_waits : Int32} {m_selectedSize : Int32} {m_selectedSequence : Int32} {m_selectedTime : Int32} {m_faults : Int32} {m_hasEvents : Int32} {m_hasBinaries : Int32} {m_hasAnalogs : Int32} {m_answer : Nat → Int32} {m_eventCounts : Nat → Int32} {m_events : Nat → Int32} {m_fragment : Nat → Int32} {m_frame : Nat → Int32} {m_relays : Nat → Int32} {m_request : Nat → Int32} {m_selected : Nat → Int32} {m_sent : Nat → Int32} {h : Int32} {d : Nat → Int32} {n s : Nat} (hn : n ≤ 250) (h1 : 1 ≤ n) (hs : s ≤ 249) (hk : ¬ s + (n - 1) ≤ 249) : (fX10_takeData_L92 m_address m_master m_timeout m_ticks (nI n) m_analogs m_binaries d h (nI s) m_requests m_acts m_fragmentSize m_segment m_requestSize m_answerSize m_sentSize m_sentNumber m_restarted m_lost m_waits m_selectedSize m_selectedSequence m_selectedTime m_faults m_hasEvents m_hasBinaries m_hasAnalogs m_answer m_eventCounts m_events m_fragment m_frame m_relays m_request m_selected m_sent) = some (m_requests, m_acts, (-1 : Int32), h &&& (63 : Int32), m_requestSize, m_answerSize, m_sentSize, m_sentNumber, m_restarted, m_lost, m_waits, m_selectedSize, m_selectedSequence, m_selectedTime, m_faults, m_hasEvents, m_hasBinaries, m_hasAnalogs, m_answer, m_eventCounts, m_events, va_cpy d m_fragment 1 s (n - 1), m_frame, m_relays, m_request, m_selected, m_sent) := by
  rw [m_seg_end hn h1 hs, fX10_takeData_L106_s, brc_t (by (first | exact Or.inl rfl | exact Or.inr rfl | assumption | (simp (disch := omega) only [z_le, z_lt, z_eq, vp_in_iff, z_nI, ix_nI, Int32.reduceToInt, ix0, ix1, ix2, ix3] <;> omega))), brc_f (by (first | exact Or.inl rfl | exact Or.inr rfl | assumption | (simp (disch := omega) only [z_le, z_lt, z_eq, vp_in_iff, z_nI, ix_nI, Int32.reduceToInt, ix0, ix1, ix2, ix3] <;> omega)))]
  rfl
/-- a segment that goes on behind s bytes -/
theorem r_seg_go {m_address : Int32} {m_master : Int32} {m_timeout : Int32} {m_ticks : Int32} {m_analogs : Nat → Int32} {m_binaries : Nat → Int32} {m_requests : Int32} {m_acts : Int32} {m_fragmentSize : Int32} {m_segment : Int32} {m_requestSize : Int32} {m_answerSize : Int32} {m_sentSize : Int32} {m_sentNumber : Int32} {m_restarted : Int32} {m_lost : Int32} {m_waits : Int32} {m_selectedSize : Int32} {m_selectedSequence : Int32} {m_selectedTime : Int32} {m_faults : Int32} {m_hasEvents : Int32} {m_hasBinaries : Int32} {m_hasAnalogs : Int32} {m_answer : Nat → Int32} {m_eventCounts : Nat → Int32} {m_events : Nat → Int32} {m_fragment : Nat → Int32} {m_frame : Nat → Int32} {m_relays : Nat → Int32} {m_request : Nat → Int32} {m_selected : Nat → Int32} {m_sent : Nat → Int32} {cf d : Nat → Int32} {n s : Nat} (hn : n ≤ 250) (h1 : 1 ≤ n) (hs : s ≤ 249) (hk : s + (n - 1) ≤ 249) (hd : byt d) (hcf : byt cf) (hmf : byt m_fragment) (he : ∀ i, i < s → cf i = m_fragment i) :
    (∃ cl' op' nu' cf' fs' sg' mf', fX1_addSegment_L55 250 d (nI n) (d 0) (nI s) 1 (d 0 &&& 63) cf = some (0, cl', op', nu', cf') ∧ (fX10_takeData_L92 m_address m_master m_timeout m_ticks (nI n) m_analogs m_binaries d (d 0) (nI s) m_requests m_acts m_fragmentSize m_segment m_requestSize m_answerSize m_sentSize m_sentNumber m_restarted m_lost m_waits m_selectedSize m_selectedSequence m_selectedTime m_faults m_hasEvents m_hasBinaries m_hasAnalogs m_answer m_eventCounts m_events m_fragment m_frame m_relays m_request m_selected m_sent) = some (m_requests, m_acts, fs', sg', m_requestSize, m_answerSize, m_sentSize, m_sentNumber, m_restarted, m_lost, m_waits, m_selectedSize, m_selectedSequence, m_selectedTime, m_faults, m_hasEvents, m_hasBinaries, m_hasAnalogs, m_answer, m_eventCounts, m_events, mf', m_frame, m_relays, m_request, m_selected, m_sent) ∧ rAsm cl' op' nu' cf' fs' sg' mf') ∨
    (∃ k nu' cf' sg' mf', 2 ≤ k ∧ k ≤ 249 ∧ byt cf' ∧ byt mf' ∧ (∀ i, i < k → cf' i = mf' i) ∧ fX1_addSegment_L55 250 d (nI n) (d 0) (nI s) 1 (d 0 &&& 63) cf = some (1, nI k, 0, nu', cf') ∧ (fX10_takeData_L92 m_address m_master m_timeout m_ticks (nI n) m_analogs m_binaries d (d 0) (nI s) m_requests m_acts m_fragmentSize m_segment m_requestSize m_answerSize m_sentSize m_sentNumber m_restarted m_lost m_waits m_selectedSize m_selectedSequence m_selectedTime m_faults m_hasEvents m_hasBinaries m_hasAnalogs m_answer m_eventCounts m_events m_fragment m_frame m_relays m_request m_selected m_sent) = bnd (fX10_ask m_address m_master m_timeout m_ticks m_analogs m_binaries (mf') (nI k) m_requests m_acts m_requestSize m_answerSize m_sentSize m_sentNumber m_restarted m_lost m_waits m_selectedSize m_selectedSequence m_selectedTime m_faults m_hasEvents m_hasBinaries m_hasAnalogs m_answer m_eventCounts m_events m_frame m_relays m_request m_selected m_sent) (fun u => some (u.1, u.2.1, (-1 : Int32), sg', u.2.2.1, u.2.2.2.1, u.2.2.2.2.1, u.2.2.2.2.2.1, u.2.2.2.2.2.2.1, u.2.2.2.2.2.2.2.1, u.2.2.2.2.2.2.2.2.1, u.2.2.2.2.2.2.2.2.2.1, u.2.2.2.2.2.2.2.2.2.2.1, u.2.2.2.2.2.2.2.2.2.2.2.1, u.2.2.2.2.2.2.2.2.2.2.2.2.1, u.2.2.2.2.2.2.2.2.2.2.2.2.2.1, u.2.2.2.2.2.2.2.2.2.2.2.2.2.2.1, u.2.2.2.2.2.2.2.2.2.2.2.2.2.2.2.1, u.2.2.2.2.2.2.2.2.2.2.2.2.2.2.2.2.1, u.2.2.2.2.2.2.2.2.2.2.2.2.2.2.2.2.2.1, u.2.2.2.2.2.2.2.2.2.2.2.2.2.2.2.2.2.2.1, mf', u.2.2.2.2.2.2.2.2.2.2.2.2.2.2.2.2.2.2.2.1, u.2.2.2.2.2.2.2.2.2.2.2.2.2.2.2.2.2.2.2.2.1, u.2.2.2.2.2.2.2.2.2.2.2.2.2.2.2.2.2.2.2.2.2.1, u.2.2.2.2.2.2.2.2.2.2.2.2.2.2.2.2.2.2.2.2.2.2.1, u.2.2.2.2.2.2.2.2.2.2.2.2.2.2.2.2.2.2.2.2.2.2.2))) := by
  have hcf' : byt (va_cpy d cf 1 s (n - 1)) := byt_cpy hd hcf
  have hmf' : byt (va_cpy d m_fragment 1 s (n - 1)) := byt_cpy hd hmf
  have heq : ∀ i, i < s + (n - 1) → va_cpy d cf 1 s (n - 1) i = va_cpy d m_fragment 1 s (n - 1) i := by
    intro i hi
    by_cases q : s ≤ i
    · rw [pk_cpy_in q hi, pk_cpy_in q hi]
    · rw [pk_cpy_out (by omega), pk_cpy_out (by omega)]
      exact he i (by omega)
  rw [m_seg_end hn h1 hs, fX10_takeData_L106_s, brc_t (by (first | exact Or.inl rfl | exact Or.inr rfl | assumption | (simp (disch := omega) only [z_le, z_lt, z_eq, vp_in_iff, z_nI, ix_nI, Int32.reduceToInt, ix0, ix1, ix2, ix3] <;> omega))), brc_t (by (first | exact Or.inl rfl | exact Or.inr rfl | assumption | (simp (disch := omega) only [z_le, z_lt, z_eq, vp_in_iff, z_nI, ix_nI, Int32.reduceToInt, ix0, ix1, ix2, ix3] <;> omega)))]
  unfold fX1_addSegment_L55 fX1_addSegment_L135 fX1_addSegment_L136
  rw [brc_f (by decide), nI_m1 h1, nI_add, ix1, ix_nI (by omega), ix_nI (by omega), ix0, grd_t ⟨by decide, nI_pos (by omega), nI_pos (by omega), by omega, by omega⟩]
  by_cases h128 : (d 0 &&& 128) = 0
  · left
    refine ⟨nI (s + (n - 1)), 1, d 0 &&& 63, va_cpy d cf 1 s (n - 1), nI (s + (n - 1)), d 0 &&& 63, va_cpy d m_fragment 1 s (n - 1), ?_, ?_, hcf', hmf', Or.inr ⟨rfl, s + (n - 1), hk, rfl, rfl, rfl, (byt63 hd 0).1, (byt63 hd 0).2, heq⟩⟩
    · rw [brc_t h128]
    · rw [brc_t ((byt128 hd 0).mpr h128)]
      rfl
  · rw [brc_f h128, brc_f (fun q => h128 ((byt128 hd 0).mp q))]
    by_cases h2 : s + (n - 1) < 2
    · left
      refine ⟨nI (s + (n - 1)), 0, d 0 &&& 63, va_cpy d cf 1 s (n - 1), -1, d 0 &&& 63, va_cpy d m_fragment 1 s (n - 1), ?_, ?_, hcf', hmf', Or.inl ⟨rfl, rfl⟩⟩
      · rw [brc_t (by (first | exact Or.inl rfl | exact Or.inr rfl | assumption | (simp (disch := omega) only [z_le, z_lt, z_eq, vp_in_iff, z_nI, ix_nI, Int32.reduceToInt, ix0, ix1, ix2, ix3] <;> omega))), grd_t (by (first | exact Or.inl rfl | exact Or.inr rfl | assumption | (simp (disch := omega) only [z_le, z_lt, z_eq, vp_in_iff, z_nI, ix_nI, Int32.reduceToInt, ix0, ix1, ix2, ix3] <;> omega)))]
      · rw [brc_t (by (first | exact Or.inl rfl | exact Or.inr rfl | assumption | (simp (disch := omega) only [z_le, z_lt, z_eq, vp_in_iff, z_nI, ix_nI, Int32.reduceToInt, ix0, ix1, ix2, ix3] <;> omega)))]
        rfl
    · have h2' : ¬ nI (s + (n - 1)) < (2 : Int32) := by (first | exact Or.inl rfl | exact Or.inr rfl | assumption | (simp (disch := omega) only [z_le, z_lt, z_eq, vp_in_iff, z_nI, ix_nI, Int32.reduceToInt, ix0, ix1, ix2, ix3] <;> omega))
      rw [brc_f h2', brc_f h2']
      by_cases h192 : (va_cpy d cf 1 s (n - 1) 0 &&& 192) = 192
      · right
        refine ⟨s + (n - 1), d 0 &&& 63, va_cpy d cf 1 s (n - 1), d 0 &&& 63, va_cpy d m_fragment 1 s (n - 1), by omega, hk, hcf', hmf', heq, ?_, ?_⟩
        · rw [brc_t h192, grd_t (by (first | exact Or.inl rfl | exact Or.inr rfl | assumption | (simp (disch := omega) only [z_le, z_lt, z_eq, vp_in_iff, z_nI, ix_nI, Int32.reduceToInt, ix0, ix1, ix2, ix3] <;> omega)))]
        · rw [brc_f (fun q => (lt192i hmf' 0).mp q (by rw [← heq 0 (by omega)]; exact h192))]
          rfl
      · left
        refine ⟨nI (s + (n - 1)), 0, d 0 &&& 63, va_cpy d cf 1 s (n - 1), -1, d 0 &&& 63, va_cpy d m_fragment 1 s (n - 1), ?_, ?_, hcf', hmf', Or.inl ⟨rfl, rfl⟩⟩
        · rw [brc_f h192, grd_t (by (first | exact Or.inl rfl | exact Or.inr rfl | assumption | (simp (disch := omega) only [z_le, z_lt, z_eq, vp_in_iff, z_nI, ix_nI, Int32.reduceToInt, ix0, ix1, ix2, ix3] <;> omega)))]
        · rw [brc_t ((lt192i hmf' 0).mpr (by rw [← heq 0 (by omega)]; exact h192))]
          rfl
/-- what a segment does, on both sides -/
theorem r_seg {m_address : Int32} {m_master : Int32} {m_timeout : Int32} {m_ticks : Int32} {m_analogs : Nat → Int32} {m_binaries : Nat → Int32} {m_requests : Int32} {m_acts : Int32} {m_fragmentSize : Int32} {m_segment : Int32} {m_requestSize : Int32} {m_answerSize : Int32} {m_sentSize : Int32} {m_sentNumber : Int32} {m_restarted : Int32} {m_lost : Int32} {m_waits : Int32} {m_selectedSize : Int32} {m_selectedSequence : Int32} {m_selectedTime : Int32} {m_faults : Int32} {m_hasEvents : Int32} {m_hasBinaries : Int32} {m_hasAnalogs : Int32} {m_answer : Nat → Int32} {m_eventCounts : Nat → Int32} {m_events : Nat → Int32} {m_fragment : Nat → Int32} {m_frame : Nat → Int32} {m_relays : Nat → Int32} {m_request : Nat → Int32} {m_selected : Nat → Int32} {m_sent : Nat → Int32} {cl op nu : Int32} {cf d : Nat → Int32} {n : Nat} (hn : n ≤ 250) (hd : byt d) (hr : rAsm cl op nu cf m_fragmentSize m_segment m_fragment) :
    (∃ cl' op' nu' cf' fs' sg' mf', fX1_addSegment 250 d (nI n) cl op nu cf = some (0, cl', op', nu', cf') ∧ (fX10_takeData m_address m_master m_timeout m_ticks (nI n) m_analogs m_binaries d m_requests m_acts m_fragmentSize m_segment m_requestSize m_answerSize m_sentSize m_sentNumber m_restarted m_lost m_waits m_selectedSize m_selectedSequence m_selectedTime m_faults m_hasEvents m_hasBinaries m_hasAnalogs m_answer m_eventCounts m_events m_fragment m_frame m_relays m_request m_selected m_sent) = some (m_requests, m_acts, fs', sg', m_requestSize, m_answerSize, m_sentSize, m_sentNumber, m_restarted, m_lost, m_waits, m_selectedSize, m_selectedSequence, m_selectedTime, m_faults, m_hasEvents, m_hasBinaries, m_hasAnalogs, m_answer, m_eventCounts, m_events, mf', m_frame, m_relays, m_request, m_selected, m_sent) ∧ rAsm cl' op' nu' cf' fs' sg' mf') ∨
    (∃ k nu' cf' sg' mf', 2 ≤ k ∧ k ≤ 249 ∧ byt cf' ∧ byt mf' ∧ (∀ i, i < k → cf' i = mf' i) ∧ fX1_addSegment 250 d (nI n) cl op nu cf = some (1, nI k, 0, nu', cf') ∧ (fX10_takeData m_address m_master m_timeout m_ticks (nI n) m_analogs m_binaries d m_requests m_acts m_fragmentSize m_segment m_requestSize m_answerSize m_sentSize m_sentNumber m_restarted m_lost m_waits m_selectedSize m_selectedSequence m_selectedTime m_faults m_hasEvents m_hasBinaries m_hasAnalogs m_answer m_eventCounts m_events m_fragment m_frame m_relays m_request m_selected m_sent) = bnd (fX10_ask m_address m_master m_timeout m_ticks m_analogs m_binaries (mf') (nI k) m_requests m_acts m_requestSize m_answerSize m_sentSize m_sentNumber m_restarted m_lost m_waits m_selectedSize m_selectedSequence m_selectedTime m_faults m_hasEvents m_hasBinaries m_hasAnalogs m_answer m_eventCounts m_events m_frame m_relays m_request m_selected m_sent) (fun u => some (u.1, u.2.1, (-1 : Int32), sg', u.2.2.1, u.2.2.2.1, u.2.2.2.2.1, u.2.2.2.2.2.1, u.2.2.2.2.2.2.1, u.2.2.2.2.2.2.2.1, u.2.2.2.2.2.2.2.2.1, u.2.2.2.2.2.2.2.2.2.1, u.2.2.2.2.2.2.2.2.2.2.1, u.2.2.2.2.2.2.2.2.2.2.2.1, u.2.2.2.2.2.2.2.2.2.2.2.2.1, u.2.2.2.2.2.2.2.2.2.2.2.2.2.1, u.2.2.2.2.2.2.2.2.2.2.2.2.2.2.1, u.2.2.2.2.2.2.2.2.2.2.2.2.2.2.2.1, u.2.2.2.2.2.2.2.2.2.2.2.2.2.2.2.2.1, u.2.2.2.2.2.2.2.2.2.2.2.2.2.2.2.2.2.1, u.2.2.2.2.2.2.2.2.2.2.2.2.2.2.2.2.2.2.1, mf', u.2.2.2.2.2.2.2.2.2.2.2.2.2.2.2.2.2.2.2.1, u.2.2.2.2.2.2.2.2.2.2.2.2.2.2.2.2.2.2.2.2.1, u.2.2.2.2.2.2.2.2.2.2.2.2.2.2.2.2.2.2.2.2.2.1, u.2.2.2.2.2.2.2.2.2.2.2.2.2.2.2.2.2.2.2.2.2.2.1, u.2.2.2.2.2.2.2.2.2.2.2.2.2.2.2.2.2.2.2.2.2.2.2))) := by
  obtain ⟨hcf, hmf, hr⟩ := hr
  unfold fX1_addSegment fX10_takeData
  rw [ix0]
  by_cases h0 : n = 0
  · subst h0
    left
    refine ⟨cl, 0, nu, cf, -1, m_segment, m_fragment, ?_, ?_, hcf, hmf, Or.inl ⟨rfl, rfl⟩⟩
    · rw [brc_f (show ¬ (1 : Int32) ≤ nI 0 by decide)]
    · rw [brc_t (show nI 0 = 0 from rfl)]
  · have e1 : (1 : Int32) ≤ nI n := nI_le (a := 1) (by omega) (by omega)
    have e2 : ¬ nI n = 0 := nI_ne0 (by omega) (by omega)
    have shut : ∀ cl1 nu1 : Int32, fX1_addSegment_L55 250 d (nI n) (d 0) cl1 0 nu1 cf = some (0, cl1, 0, nu1, cf) := by
      intro cl1 nu1
      unfold fX1_addSegment_L55
      rw [brc_t rfl]
    rw [brc_t e1, brc_f e2, grd_t (by (first | exact Or.inl rfl | exact Or.inr rfl | assumption | (simp (disch := omega) only [z_le, z_lt, z_eq, vp_in_iff, z_nI, ix_nI, Int32.reduceToInt, ix0, ix1, ix2, ix3] <;> omega)))]
    unfold fX1_addSegment_L29 fX1_beginOrGoOn fX1_beginOrGoOn_L35 fX10_takeData_L35 fX10_takeData_L63 fX10_takeData_L67 fX10_takeData_L68
    by_cases h64 : (d 0 &&& 64) = 0
    · rw [brc_t h64, brc_f (fun q => (byt64 hd 0).mp q h64), brc_t (show (0 : Int32) = 0 from rfl), brc_t (show (0 : Int32) = 0 from rfl)]
      rcases hr with ⟨rfl, hfs⟩ | ⟨rfl, s, hs, rfl, hfs, hnu, hs0, hs1, he⟩
      · left
        refine ⟨cl, 0, d 0 &&& 63, cf, -1, m_segment, m_fragment, ?_, ?_, hcf, hmf, Or.inl ⟨rfl, rfl⟩⟩
        · by_cases hq : (d 0 &&& 63) = ((nu + 1) &&& 63)
          · rw [brc_t hq, bnd_t rfl]
            dsimp only
            rw [shut]
            by_cases hz : ((cl + nI n) - (1 : Int32)) ≤ 249
            · rw [brc_t hz]
            · rw [brc_f hz]
          · rw [brc_f hq, bnd_t rfl]
            dsimp only
            rw [shut]
            by_cases hz : ((cl + nI n) - (1 : Int32)) ≤ 249
            · rw [brc_t hz]
            · rw [brc_f hz]
        · rw [hfs, brc_t (show (-1 : Int32) < 0 by decide), brc_t (show (0 : Int32) = 0 from rfl)]
      · subst hnu
        rw [hfs, brc_f (show ¬ nI s < 0 from nI_pos (by omega)), seg64 hs0 hs1]
        by_cases hq : (d 0 &&& 63) = ((nu + 1) &&& 63)
        · rw [brc_t hq, brc_t hq, bnd_t rfl, brc_f (show ¬ (1 : Int32) = 0 by decide), brc_t (show (0 : Int32) = 0 from rfl)]
          dsimp only
          rw [nI_add, nI_m1 (by omega)]
          by_cases hk : s + (n - 1) ≤ 249
          · rw [brc_t (by (first | exact Or.inl rfl | exact Or.inr rfl | assumption | (simp (disch := omega) only [z_le, z_lt, z_eq, vp_in_iff, z_nI, ix_nI, Int32.reduceToInt, ix0, ix1, ix2, ix3] <;> omega)))]
            exact r_seg_go hn (by omega) hs hk hd hcf hmf he
          · left
            refine ⟨nI s, 0, d 0 &&& 63, cf, -1, d 0 &&& 63, va_cpy d m_fragment 1 s (n - 1), ?_, m_seg_over hn (by omega) hs hk, hcf, byt_cpy hd hmf, Or.inl ⟨rfl, rfl⟩⟩
            rw [brc_f (by (first | exact Or.inl rfl | exact Or.inr rfl | assumption | (simp (disch := omega) only [z_le, z_lt, z_eq, vp_in_iff, z_nI, ix_nI, Int32.reduceToInt, ix0, ix1, ix2, ix3] <;> omega))), shut]
        · left
          refine ⟨nI s, 0, d 0 &&& 63, cf, -1, nu, m_fragment, ?_, ?_, hcf, hmf, Or.inl ⟨rfl, rfl⟩⟩
          · rw [brc_f hq, bnd_t rfl]
            dsimp only
            rw [shut]
            by_cases hz : ((nI s + nI n) - (1 : Int32)) ≤ 249
            · rw [brc_t hz]
            · rw [brc_f hz]
          · rw [brc_f hq, brc_t (show (0 : Int32) = 0 from rfl)]
    · rw [brc_f h64, brc_t ((byt64 hd 0).mpr h64), brc_f (show ¬ (1 : Int32) = 0 by decide), brc_f (show ¬ (1 : Int32) = 0 by decide), bnd_t rfl, brc_f (show ¬ (1 : Int32) = 0 by decide), brc_f (show ¬ (1 : Int32) = 0 by decide)]
      dsimp only
      rw [show ((0 : Int32) + nI n) = nI n by rw [show (0 : Int32) = nI 0 from rfl, nI_add, Nat.zero_add], nI_m1 (by omega), brc_t (by (first | exact Or.inl rfl | exact Or.inr rfl | assumption | (simp (disch := omega) only [z_le, z_lt, z_eq, vp_in_iff, z_nI, ix_nI, Int32.reduceToInt, ix0, ix1, ix2, ix3] <;> omega)))]
      exact r_seg_go (s := 0) hn (by omega) (by decide) (by omega) hd hcf hmf (fun i hi => absurd hi (by omega))
