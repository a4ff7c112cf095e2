-- FILE 57.asm.txt
/-! fragments -/
def rAsm (cl op nu : Int32) (cf : Nat → Int32) (fs sg : Int32) (mf : Nat → Int32) : Prop :=
  byt cf ∧ byt mf ∧ ((op = 0 ∧ fs = -1) ∨ (op = 1 ∧ ∃ n : Nat, n ≤ 249 ∧ cl = nI n ∧ fs = nI n ∧ nu = sg ∧ 0 ≤ sg.toInt ∧ sg.toInt < 64 ∧ ∀ i, i < n → cf i = mf i))
theorem b64 : ∀ b : Nat, b < 256 → ((((nI b >>> ((6 : Int32) &&& 31)) &&& 1) = 1) ↔ ¬ ((nI b &&& 64) = 0)) := by decide +kernel
theorem b128 : ∀ b : Nat, b < 256 → ((nI b ≤ 127) ↔ ((nI b &&& 128) = 0)) := by decide +kernel
theorem byt64 {f : Nat → Int32} (hb : byt f) (i : Nat) : (((f i >>> ((6 : Int32) &&& 31)) &&& 1) = 1) ↔ ¬ ((f i &&& 64) = 0) := by
  have h := byt_ix hb i
  have e := b64 (ix (f i)) h.1
  rw [← h.2] at e
  exact e
theorem byt128 {f : Nat → Int32} (hb : byt f) (i : Nat) : (f i ≤ 127) ↔ ((f i &&& 128) = 0) := by
  have h := byt_ix hb i
  have e := b128 (ix (f i)) h.1
  rw [← h.2] at e
  exact e
theorem byt63 {f : Nat → Int32} (hb : byt f) (i : Nat) : 0 ≤ (f i &&& 63).toInt ∧ (f i &&& 63).toInt < 64 := by
  rw [z_and63]
  omega
theorem sg64 : ∀ b : Nat, b < 64 → ((nI b + 1) - (nI b + 1) / 64 * 64) = ((nI b + 1) &&& 63) := by decide +kernel
theorem seg64 {s : Int32} (h0 : 0 ≤ s.toInt) (h1 : s.toInt < 64) : ((s + 1) - (s + 1) / 64 * 64) = ((s + 1) &&& 63) := by
  have e := sg64 (ix s) (by rw [z_ix]; omega)
  rw [← z_of h0] at e
  exact e
theorem lt192i {f : Nat → Int32} (hb : byt f) (i : Nat) : f i < 192 ↔ ¬ (f i &&& 192) = 192 := by
  have h := byt_ix hb i
  have e := nI_ltI (a := ix (f i)) (b := 192) (by omega) (by decide)
  rw [← h.2] at e
  rw [byt192 hb i]
  exact e.trans (by omega)
theorem m_frag {m_address : Int32} {m_master : Int32} {m_timeout : Int32} {m_ticks : Int32} {m_analogs : Nat → Int32} {m_binaries : Nat → Int32} {x1 : Int32} {m_requests : Int32} {m_acts : Int32} {m_segment : Int32} {m_requestSize : Int32} {m_answerSize : Int32} {m_sentSize : Int32} {m_sentNumber : Int32} {m_restarted : Int32} {m_lost : Int32} {m_waits : Int32} {m_selectedSize : Int32} {m_selectedSequence : Int32} {m_selectedTime : Int32} {m_faults : Int32} {m_hasEvents : Int32} {m_hasBinaries : Int32} {m_hasAnalogs : Int32} {m_answer : Nat → Int32} {m_eventCounts : Nat → Int32} {m_events : Nat → Int32} {m_frame : Nat → Int32} {m_relays : Nat → Int32} {m_request : Nat → Int32} {m_selected : Nat → Int32} {m_sent : Nat → Int32} {d mf : Nat → Int32} {n s : Nat} (hn : n ≤ 250) (hs : s ≤ 249) : ∀ (j p k : Nat), k + j = n → 1 ≤ k → (fX10_takeData_L106 m_address m_master m_timeout m_ticks (nI n) m_analogs m_binaries d (p + j + 1) x1 (nI k) m_requests m_acts (nI (s + (k - 1))) m_segment m_requestSize m_answerSize m_sentSize m_sentNumber m_restarted m_lost m_waits m_selectedSize m_selectedSequence m_selectedTime m_faults m_hasEvents m_hasBinaries m_hasAnalogs m_answer m_eventCounts m_events (va_cpy d mf 1 s (k - 1)) m_frame m_relays m_request m_selected m_sent) = (fX10_takeData_L106 m_address m_master m_timeout m_ticks (nI n) m_analogs m_binaries d (p + 1) x1 (nI n) m_requests m_acts (nI (s + (n - 1))) m_segment m_requestSize m_answerSize m_sentSize m_sentNumber m_restarted m_lost m_waits m_selectedSize m_selectedSequence m_selectedTime m_faults m_hasEvents m_hasBinaries m_hasAnalogs m_answer m_eventCounts m_events (va_cpy d mf 1 s (n - 1)) m_frame m_relays m_request m_selected m_sent) := by
  intro j
  induction j with
  | zero =>
    intro p k hk h1
    have hk : k = n := hk
    subst hk
    rfl
  | succ j ih =>
    intro p k hk h1
    rw [show p + (j + 1) + 1 = (p + j + 1) + 1 by omega, fX10_takeData_L106_s, brc_f (by (first | exact Or.inl rfl | exact Or.inr rfl | assumption | (simp (disch := omega) only [z_le, z_lt, z_eq, vp_in_iff, z_nI, ix_nI, Int32.reduceToInt, ix0, ix1, ix2, ix3] <;> omega))), grd_t (by (first | exact Or.inl rfl | exact Or.inr rfl | assumption | (simp (disch := omega) only [z_le, z_lt, z_eq, vp_in_iff, z_nI, ix_nI, Int32.reduceToInt, ix0, ix1, ix2, ix3] <;> omega))), grd_t (by (first | exact Or.inl rfl | exact Or.inr rfl | assumption | (simp (disch := omega) only [z_le, z_lt, z_eq, vp_in_iff, z_nI, ix_nI, Int32.reduceToInt, ix0, ix1, ix2, ix3] <;> omega))), nI_1, nI_1, ix_nI (by omega), ix_nI (by omega)]
    have e := cpy_step (f := d) (g := mf) (sp := 1) (dp := s) (k := k - 1)
    rw [show 1 + (k - 1) = k by omega, show k - 1 + 1 = k by omega] at e
    rw [e]
    have ih' := ih p (k + 1) (by omega) (by omega)
    rw [show k + 1 - 1 = k by omega] at ih'
    rw [show s + (k - 1) + 1 = s + k by omega]
    exact ih'
theorem m_seg_end {m_address : Int32} {m_master : Int32} {m_timeout : Int32} {m_ticks : Int32} {m_analogs : Nat → Int32} {m_binaries : Nat → Int32} {m_requests : Int32} {m_acts : Int32} {m_fragmentSize : Int32} {m_segment : Int32} {m_requestSize : Int32} {m_answerSize : Int32} {m_sentSize : Int32} {m_sentNumber : Int32} {m_restarted : Int32} {m_lost : Int32} {m_waits : Int32} {m_selectedSize : Int32} {m_selectedSequence : Int32} {m_selectedTime : Int32} {m_faults : Int32} {m_hasEvents : Int32} {m_hasBinaries : Int32} {m_hasAnalogs : Int32} {m_answer : Nat → Int32} {m_eventCounts : Nat → Int32} {m_events : Nat → Int32} {m_fragment : Nat → Int32} {m_frame : Nat → Int32} {m_relays : Nat → Int32} {m_request : Nat → Int32} {m_selected : Nat → Int32} {m_sent : Nat → Int32} {h : Int32} {d : Nat → Int32} {n s : Nat} (hn : n ≤ 250) (h1 : 1 ≤ n) (hs : s ≤ 249) : (fX10_takeData_L92 m_address m_master m_timeout m_ticks (nI n) m_analogs m_binaries d h (nI s) m_requests m_acts m_fragmentSize m_segment m_requestSize m_answerSize m_sentSize m_sentNumber m_restarted m_lost m_waits m_selectedSize m_selectedSequence m_selectedTime m_faults m_hasEvents m_hasBinaries m_hasAnalogs m_answer m_eventCounts m_events m_fragment m_frame m_relays m_request m_selected m_sent) = (fX10_takeData_L106 m_address m_master m_timeout m_ticks (nI n) m_analogs m_binaries d (4999 - (n - 1) + 1) h (nI n) m_requests m_acts (nI (s + (n - 1))) (h &&& (63 : Int32)) m_requestSize m_answerSize m_sentSize m_sentNumber m_restarted m_lost m_waits m_selectedSize m_selectedSequence m_selectedTime m_faults m_hasEvents m_hasBinaries m_hasAnalogs m_answer m_eventCounts m_events (va_cpy d m_fragment 1 s (n - 1)) m_frame m_relays m_request m_selected m_sent) := by
  unfold fX10_takeData_L92
  have e := m_frag (m_address := m_address) (m_master := m_master) (m_timeout := m_timeout) (m_ticks := m_ticks) (m_analogs := m_analogs) (m_binaries := m_binaries) (x1 := h) (m_requests := m_requests) (m_acts := m_acts) (m_segment := h &&& (63 : Int32)) (m_requestSize := m_requestSize) (m_answerSize := m_answerSize) (m_sentSize := m_sentSize) (m_sentNumber := m_sentNumber) (m_restarted := m_restarted) (m_lost := m_lost) (m_waits := m_waits) (m_selectedSize := m_selectedSize) (m_selectedSequence := m_selectedSequence) (m_selectedTime := m_selectedTime) (m_faults := m_faults) (m_hasEvents := m_hasEvents) (m_hasBinaries := m_hasBinaries) (m_hasAnalogs := m_hasAnalogs) (m_answer := m_answer) (m_eventCounts := m_eventCounts) (m_events := m_events) (m_frame := m_frame) (m_relays := m_relays) (m_request := m_request) (m_selected := m_selected) (m_sent := m_sent) (d := d) (mf := m_fragment) hn hs (n - 1) (4999 - (n - 1)) 1 (by omega) (Nat.le_refl _)
  rw [show 4999 - (n - 1) + (n - 1) + 1 = FU by unfold FU; omega, show 1 - 1 = 0 from rfl, cpy_0, Nat.add_zero] at e
  exact e
theorem m_seg_over {m_address : Int32} {m_master : Int32} {m_timeout : Int32} {m_ticks : Int32} {m_analogs : Nat → Int32} {m_binaries : Nat → Int32} {m_requests : Int32} {m_acts : Int32} {m_fragmentSize : Int32} {m_segment : Int32} {m_requestSize : Int32} {m_answerSize : Int32} {m_sentSize : Int32} {m_sentNumber : Int32} {m_restarted : Int32} {m_lost : Int32} {m_waits : Int32} {m_selectedSize : Int32} {m_selectedSequence : Int32} {m_selectedTime : Int32} {m_faults : Int32} {m_hasEvents : Int32} {m_hasBinaries : Int32} {m_hasAnalogs : Int32} {m_answer : Nat → Int32} {m_eventCounts : Nat → Int32} {m_events : Nat → Int32} {m_fragment : Nat → Int32} {m_frame : Nat → Int32} {m_relays : Nat → Int32} {m_request : Nat → Int32} {m_selected : Nat → Int32} {m_sent : Nat → Int32} {h : Int32} {d : Nat → Int32} {n s : Nat} (hn : n ≤ 250) (h1 : 1 ≤ n) (hs : s ≤ 249) (hk : ¬ s + (n - 1) ≤ 249) : (fX10_takeData_L92 m_address m_master m_timeout m_ticks (nI n) m_analogs m_binaries d h (nI s) m_requests m_acts m_fragmentSize m_segment m_requestSize m_answerSize m_sentSize m_sentNumber m_restarted m_lost m_waits m_selectedSize m_selectedSequence m_selectedTime m_faults m_hasEvents m_hasBinaries m_hasAnalogs m_answer m_eventCounts m_events m_fragment m_frame m_relays m_request m_selected m_sent) = some (m_requests, m_acts, (-1 : Int32), h &&& (63 : Int32), m_requestSize, m_answerSize, m_sentSize, m_sentNumber, m_restarted, m_lost, m_waits, m_selectedSize, m_selectedSequence, m_selectedTime, m_faults, m_hasEvents, m_hasBinaries, m_hasAnalogs, m_answer, m_eventCounts, m_events, va_cpy d m_fragment 1 s (n - 1), m_frame, m_relays, m_request, m_selected, m_sent) := by
  rw [m_seg_end hn h1 hs, fX10_takeData_L106_s, brc_t (by (first | exact Or.inl rfl | exact Or.inr rfl | assumption | (simp (disch := omega) only [z_le, z_lt, z_eq, vp_in_iff, z_nI, ix_nI, Int32.reduceToInt, ix0, ix1, ix2, ix3] <;> omega))), brc_f (by (first | exact Or.inl rfl | exact Or.inr rfl | assumption | (simp (disch := omega) only [z_le, z_lt, z_eq, vp_in_iff, z_nI, ix_nI, Int32.reduceToInt, ix0, ix1, ix2, ix3] <;> omega)))]
  rfl
/-- a segment that goes on behind s bytes -/
theorem r_seg_go {m_address : Int32} {m_master : Int32} {m_timeout : Int32} {m_ticks : Int32} {m_analogs : Nat → Int32} {m_binaries : Nat → Int32} {m_requests : Int32} {m_acts : Int32} {m_fragmentSize : Int32} {m_segment : Int32} {m_requestSize : Int32} {m_answerSize : Int32} {m_sentSize : Int32} {m_sentNumber : Int32} {m_restarted : Int32} {m_lost : Int32} {m_waits : Int32} {m_selectedSize : Int32} {m_selectedSequence : Int32} {m_selectedTime : Int32} {m_faults : Int32} {m_hasEvents : Int32} {m_hasBinaries : Int32} {m_hasAnalogs : Int32} {m_answer : Nat → Int32} {m_eventCounts : Nat → Int32} {m_events : Nat → Int32} {m_fragment : Nat → Int32} {m_frame : Nat → Int32} {m_relays : Nat → Int32} {m_request : Nat → Int32} {m_selected : Nat → Int32} {m_sent : Nat → Int32} {cf d : Nat → Int32} {n s : Nat} (hn : n ≤ 250) (h1 : 1 ≤ n) (hs : s ≤ 249) (hk : s + (n - 1) ≤ 249) (hd : byt d) (hcf : byt cf) (hmf : byt m_fragment) (he : ∀ i, i < s → cf i = m_fragment i) :
    (∃ cl' op' nu' cf' fs' sg' mf', fX1_addSegment_L55 250 d (nI n) (d 0) (nI s) 1 (d 0 &&& 63) cf = some (0, cl', op', nu', cf') ∧ (fX10_takeData_L92 m_address m_master m_timeout m_ticks (nI n) m_analogs m_binaries d (d 0) (nI s) m_requests m_acts m_fragmentSize m_segment m_requestSize m_answerSize m_sentSize m_sentNumber m_restarted m_lost m_waits m_selectedSize m_selectedSequence m_selectedTime m_faults m_hasEvents m_hasBinaries m_hasAnalogs m_answer m_eventCounts m_events m_fragment m_frame m_relays m_request m_selected m_sent) = some (m_requests, m_acts, fs', sg', m_requestSize, m_answerSize, m_sentSize, m_sentNumber, m_restarted, m_lost, m_waits, m_selectedSize, m_selectedSequence, m_selectedTime, m_faults, m_hasEvents, m_hasBinaries, m_hasAnalogs, m_answer, m_eventCounts, m_events, mf', m_frame, m_relays, m_request, m_selected, m_sent) ∧ rAsm cl' op' nu' cf' fs' sg' mf') ∨
    (∃ k nu' cf' sg' mf', 2 ≤ k ∧ k ≤ 249 ∧ byt cf' ∧ byt mf' ∧ (∀ i, i < k → cf' i = mf' i) ∧ fX1_addSegment_L55 250 d (nI n) (d 0) (nI s) 1 (d 0 &&& 63) cf = some (1, nI k, 0, nu', cf') ∧ (fX10_takeData_L92 m_address m_master m_timeout m_ticks (nI n) m_analogs m_binaries d (d 0) (nI s) m_requests m_acts m_fragmentSize m_segment m_requestSize m_answerSize m_sentSize m_sentNumber m_restarted m_lost m_waits m_selectedSize m_selectedSequence m_selectedTime m_faults m_hasEvents m_hasBinaries m_hasAnalogs m_answer m_eventCounts m_events m_fragment m_frame m_relays m_request m_selected m_sent) = bnd (fX10_ask m_address m_master m_timeout m_ticks m_analogs m_binaries (mf') (nI k) m_requests m_acts m_requestSize m_answerSize m_sentSize m_sentNumber m_restarted m_lost m_waits m_selectedSize m_selectedSequence m_selectedTime m_faults m_hasEvents m_hasBinaries m_hasAnalogs m_answer m_eventCounts m_events m_frame m_relays m_request m_selected m_sent) (fun u => some (u.1, u.2.1, (-1 : Int32), sg', u.2.2.1, u.2.2.2.1, u.2.2.2.2.1, u.2.2.2.2.2.1, u.2.2.2.2.2.2.1, u.2.2.2.2.2.2.2.1, u.2.2.2.2.2.2.2.2.1, u.2.2.2.2.2.2.2.2.2.1, u.2.2.2.2.2.2.2.2.2.2.1, u.2.2.2.2.2.2.2.2.2.2.2.1, u.2.2.2.2.2.2.2.2.2.2.2.2.1, u.2.2.2.2.2.2.2.2.2.2.2.2.2.1, u.2.2.2.2.2.2.2.2.2.2.2.2.2.2.1, u.2.2.2.2.2.2.2.2.2.2.2.2.2.2.2.1, u.2.2.2.2.2.2.2.2.2.2.2.2.2.2.2.2.1, u.2.2.2.2.2.2.2.2.2.2.2.2.2.2.2.2.2.1, u.2.2.2.2.2.2.2.2.2.2.2.2.2.2.2.2.2.2.1, mf', u.2.2.2.2.2.2.2.2.2.2.2.2.2.2.2.2.2.2.2.1, u.2.2.2.2.2.2.2.2.2.2.2.2.2.2.2.2.2.2.2.2.1, u.2.2.2.2.2.2.2.2.2.2.2.2.2.2.2.2.2.2.2.2.2.1, u.2.2.2.2.2.2.2.2.2.2.2.2.2.2.2.2.2.2.2.2.2.2.1, u.2.2.2.2.2.2.2.2.2.2.2.2.2.2.2.2.2.2.2.2.2.2.2))) := by
  have hcf' : byt (va_cpy d cf 1 s (n - 1)) := byt_cpy hd hcf
  have hmf' : byt (va_cpy d m_fragment 1 s (n - 1)) := byt_cpy hd hmf
  have heq : ∀ i, i < s + (n - 1) → va_cpy d cf 1 s (n - 1) i = va_cpy d m_fragment 1 s (n - 1) i := by
    intro i hi
    by_cases q : s ≤ i
    · rw [pk_cpy_in q hi, pk_cpy_in q hi]
    · rw [pk_cpy_out (by omega), pk_cpy_out (by omega)]
      exact he i (by omega)
  rw [m_seg_end hn h1 hs, fX10_takeData_L106_s, brc_t (by (first | exact Or.inl rfl | exact Or.inr rfl | assumption | (simp (disch := omega) only [z_le, z_lt, z_eq, vp_in_iff, z_nI, ix_nI, Int32.reduceToInt, ix0, ix1, ix2, ix3] <;> omega))), brc_t (by (first | exact Or.inl rfl | exact Or.inr rfl | assumption | (simp (disch := omega) only [z_le, z_lt, z_eq, vp_in_iff, z_nI, ix_nI, Int32.reduceToInt, ix0, ix1, ix2, ix3] <;> omega)))]
  unfold fX1_addSegment_L55 fX1_addSegment_L135 fX1_addSegment_L136
  rw [brc_f (by decide), nI_m1 h1, nI_add, ix1, ix_nI (by omega), ix_nI (by omega), ix0, grd_t ⟨by decide, nI_pos (by omega), nI_pos (by omega), by omega, by omega⟩]
  by_cases h128 : (d 0 &&& 128) = 0
  · left
    refine ⟨nI (s + (n - 1)), 1, d 0 &&& 63, va_cpy d cf 1 s (n - 1), nI (s + (n - 1)), d 0 &&& 63, va_cpy d m_fragment 1 s (n - 1), ?_, ?_, hcf', hmf', Or.inr ⟨rfl, s + (n - 1), hk, rfl, rfl, rfl, (byt63 hd 0).1, (byt63 hd 0).2, heq⟩⟩
    · rw [brc_t h128]
    · rw [brc_t ((byt128 hd 0).mpr h128)]
      rfl
  · rw [brc_f h128, brc_f (fun q => h128 ((byt128 hd 0).mp q))]
    by_cases h2 : s + (n - 1) < 2
    · left
      refine ⟨nI (s + (n - 1)), 0, d 0 &&& 63, va_cpy d cf 1 s (n - 1), -1, d 0 &&& 63, va_cpy d m_fragment 1 s (n - 1), ?_, ?_, hcf', hmf', Or.inl ⟨rfl, rfl⟩⟩
      · rw [brc_t (by (first | exact Or.inl rfl | exact Or.inr rfl | assumption | (simp (disch := omega) only [z_le, z_lt, z_eq, vp_in_iff, z_nI, ix_nI, Int32.reduceToInt, ix0, ix1, ix2, ix3] <;> omega))), grd_t (by (first | exact Or.inl rfl | exact Or.inr rfl | assumption | (simp (disch := omega) only [z_le, z_lt, z_eq, vp_in_iff, z_nI, ix_nI, Int32.reduceToInt, ix0, ix1, ix2, ix3] <;> omega)))]
      · rw [brc_t (by (first | exact Or.inl rfl | exact Or.inr rfl | assumption | (simp (disch := omega) only [z_le, z_lt, z_eq, vp_in_iff, z_nI, ix_nI, Int32.reduceToInt, ix0, ix1, ix2, ix3] <;> omega)))]
        rfl
    · have h2' : ¬ nI (s + (n - 1)) < (2 : Int32) := by (first | exact Or.inl rfl | exact Or.inr rfl | assumption | (simp (disch := omega) only [z_le, z_lt, z_eq, vp_in_iff, z_nI, ix_nI, Int32.reduceToInt, ix0, ix1, ix2, ix3] <;> omega))
      rw [brc_f h2', brc_f h2']
      by_cases h192 : (va_cpy d cf 1 s (n - 1) 0 &&& 192) = 192
      · right
        refine ⟨s + (n - 1), d 0 &&& 63, va_cpy d cf 1 s (n - 1), d 0 &&& 63, va_cpy d m_fragment 1 s (n - 1), by omega, hk, hcf', hmf', heq, ?_, ?_⟩
        · rw [brc_t h192, grd_t (by (first | exact Or.inl rfl | exact Or.inr rfl | assumption | (simp (disch := omega) only [z_le, z_lt, z_eq, vp_in_iff, z_nI, ix_nI, Int32.reduceToInt, ix0, ix1, ix2, ix3] <;> omega)))]
        · rw [brc_f (fun q => (lt192i hmf' 0).mp q (by rw [← heq 0 (by omega)]; exact h192))]
          rfl
      · left
        refine ⟨nI (s + (n - 1)), 0, d 0 &&& 63, va_cpy d cf 1 s (n - 1), -1, d 0 &&& 63, va_cpy d m_fragment 1 s (n - 1), ?_, ?_, hcf', hmf', Or.inl ⟨rfl, rfl⟩⟩
        · rw [brc_f h192, grd_t (by (first | exact Or.inl rfl | exact Or.inr rfl | assumption | (simp (disch := omega) only [z_le, z_lt, z_eq, vp_in_iff, z_nI, ix_nI, Int32.reduceToInt, ix0, ix1, ix2, ix3] <;> omega)))]
        · rw [brc_t ((lt192i hmf' 0).mpr (by rw [← heq 0 (by omega)]; exact h192))]
          rfl
/-- what a segment does, on both sides -/
theorem r_seg {m_address : Int32} {m_master : Int32} {m_timeout : Int32} {m_ticks : Int32} {m_analogs : Nat → Int32} {m_binaries : Nat → Int32} {m_requests : Int32} {m_acts : Int32} {m_fragmentSize : Int32} {m_segment : Int32} {m_requestSize : Int32} {m_answerSize : Int32} {m_sentSize : Int32} {m_sentNumber : Int32} {m_restarted : Int32} {m_lost : Int32} {m_waits : Int32} {m_selectedSize : Int32} {m_selectedSequence : Int32} {m_selectedTime : Int32} {m_faults : Int32} {m_hasEvents : Int32} {m_hasBinaries : Int32} {m_hasAnalogs : Int32} {m_answer : Nat → Int32} {m_eventCounts : Nat → Int32} {m_events : Nat → Int32} {m_fragment : Nat → Int32} {m_frame : Nat → Int32} {m_relays : Nat → Int32} {m_request : Nat → Int32} {m_selected : Nat → Int32} {m_sent : Nat → Int32} {cl op nu : Int32} {cf d : Nat → Int32} {n : Nat} (hn : n ≤ 250) (hd : byt d) (hr : rAsm cl op nu cf m_fragmentSize m_segment m_fragment) :
    (∃ cl' op' nu' cf' fs' sg' mf', fX1_addSegment 250 d (nI n) cl op nu cf = some (0, cl', op', nu', cf') ∧ (fX10_takeData m_address m_master m_timeout m_ticks (nI n) m_analogs m_binaries d m_requests m_acts m_fragmentSize m_segment m_requestSize m_answerSize m_sentSize m_sentNumber m_restarted m_lost m_waits m_selectedSize m_selectedSequence m_selectedTime m_faults m_hasEvents m_hasBinaries m_hasAnalogs m_answer m_eventCounts m_events m_fragment m_frame m_relays m_request m_selected m_sent) = some (m_requests, m_acts, fs', sg', m_requestSize, m_answerSize, m_sentSize, m_sentNumber, m_restarted, m_lost, m_waits, m_selectedSize, m_selectedSequence, m_selectedTime, m_faults, m_hasEvents, m_hasBinaries, m_hasAnalogs, m_answer, m_eventCounts, m_events, mf', m_frame, m_relays, m_request, m_selected, m_sent) ∧ rAsm cl' op' nu' cf' fs' sg' mf') ∨
    (∃ k nu' cf' sg' mf', 2 ≤ k ∧ k ≤ 249 ∧ byt cf' ∧ byt mf' ∧ (∀ i, i < k → cf' i = mf' i) ∧ fX1_addSegment 250 d (nI n) cl op nu cf = some (1, nI k, 0, nu', cf') ∧ (fX10_takeData m_address m_master m_timeout m_ticks (nI n) m_analogs m_binaries d m_requests m_acts m_fragmentSize m_segment m_requestSize m_answerSize m_sentSize m_sentNumber m_restarted m_lost m_waits m_selectedSize m_selectedSequence m_selectedTime m_faults m_hasEvents m_hasBinaries m_hasAnalogs m_answer m_eventCounts m_events m_fragment m_frame m_relays m_request m_selected m_sent) = bnd (fX10_ask m_address m_master m_timeout m_ticks m_analogs m_binaries (mf') (nI k) m_requests m_acts m_requestSize m_answerSize m_sentSize m_sentNumber m_restarted m_lost m_waits m_selectedSize m_selectedSequence m_selectedTime m_faults m_hasEvents m_hasBinaries m_hasAnalogs m_answer m_eventCounts m_events m_frame m_relays m_request m_selected m_sent) (fun u => some (u.1, u.2.1, (-1 : Int32), sg', u.2.2.1, u.2.2.2.1, u.2.2.2.2.1, u.2.2.2.2.2.1, u.2.2.2.2.2.2.1, u.2.2.2.2.2.2.2.1, u.2.2.2.2.2.2.2.2.1, u.2.2.2.2.2.2.2.2.2.1, u.2.2.2.2.2.2.2.2.2.2.1, u.2.2.2.2.2.2.2.2.2.2.2.1, u.2.2.2.2.2.2.2.2.2.2.2.2.1, u.2.2.2.2.2.2.2.2.2.2.2.2.2.1, u.2.2.2.2.2.2.2.2.2.2.2.2.2.2.1, u.2.2.2.2.2.2.2.2.2.2.2.2.2.2.2.1, u.2.2.2.2.2.2.2.2.2.2.2.2.2.2.2.2.1, u.2.2.2.2.2.2.2.2.2.2.2.2.2.2.2.2.2.1, u.2.2.2.2.2.2.2.2.2.2.2.2.2.2.2.2.2.2.1, mf', u.2.2.2.2.2.2.2.2.2.2.2.2.2.2.2.2.2.2.2.1, u.2.2.2.2.2.2.2.2.2.2.2.2.2.2.2.2.2.2.2.2.1, u.2.2.2.2.2.2.2.2.2.2.2.2.2.2.2.2.2.2.2.2.2.1, u.2.2.2.2.2.2.2.2.2.2.2.2.2.2.2.2.2.2.2.2.2.2.1, u.2.2.2.2.2.2.2.2.2.2.2.2.2.2.2.2.2.2.2.2.2.2.2))) := by
  obtain ⟨hcf, hmf, hr⟩ := hr
  unfold fX1_addSegment fX10_takeData
  rw [ix0]
  by_cases h0 : n = 0
  · subst h0
    left
    refine ⟨cl, 0, nu, cf, -1, m_segment, m_fragment, ?_, ?_, hcf, hmf, Or.inl ⟨rfl, rfl⟩⟩
    · rw [brc_f (show ¬ (1 : Int32) ≤ nI 0 by decide)]
    · rw [brc_t (show nI 0 = 0 from rfl)]
  · have e1 : (1 : Int32) ≤ nI n := nI_le (a := 1) (by omega) (by omega)
    have e2 : ¬ nI n = 0 := nI_ne0 (by omega) (by omega)
    have shut : ∀ cl1 nu1 : Int32, fX1_addSegment_L55 250 d (nI n) (d 0) cl1 0 nu1 cf = some (0, cl1, 0, nu1, cf) := by
      intro cl1 nu1
      unfold fX1_addSegment_L55
      rw [brc_t rfl]
    rw [brc_t e1, brc_f e2, grd_t (by (first | exact Or.inl rfl | exact Or.inr rfl | assumption | (simp (disch := omega) only [z_le, z_lt, z_eq, vp_in_iff, z_nI, ix_nI, Int32.reduceToInt, ix0, ix1, ix2, ix3] <;> omega)))]
    unfold fX1_addSegment_L29 fX1_beginOrGoOn fX1_beginOrGoOn_L35 fX10_takeData_L35 fX10_takeData_L63 fX10_takeData_L67 fX10_takeData_L68
    by_cases h64 : (d 0 &&& 64) = 0
    · rw [brc_t h64, brc_f (fun q => (byt64 hd 0).mp q h64), brc_t (show (0 : Int32) = 0 from rfl), brc_t (show (0 : Int32) = 0 from rfl)]
      rcases hr with ⟨rfl, hfs⟩ | ⟨rfl, s, hs, rfl, hfs, hnu, hs0, hs1, he⟩
      · left
        refine ⟨cl, 0, d 0 &&& 63, cf, -1, m_segment, m_fragment, ?_, ?_, hcf, hmf, Or.inl ⟨rfl, rfl⟩⟩
        · by_cases hq : (d 0 &&& 63) = ((nu + 1) &&& 63)
          · rw [brc_t hq, bnd_t rfl]
            dsimp only
            rw [shut]
            by_cases hz : ((cl + nI n) - (1 : Int32)) ≤ 249
            · rw [brc_t hz]
            · rw [brc_f hz]
          · rw [brc_f hq, bnd_t rfl]
            dsimp only
            rw [shut]
            by_cases hz : ((cl + nI n) - (1 : Int32)) ≤ 249
            · rw [brc_t hz]
            · rw [brc_f hz]
        · rw [hfs, brc_t (show (-1 : Int32) < 0 by decide), brc_t (show (0 : Int32) = 0 from rfl)]
      · subst hnu
        rw [hfs, brc_f (show ¬ nI s < 0 from nI_pos (by omega)), seg64 hs0 hs1]
        by_cases hq : (d 0 &&& 63) = ((nu + 1) &&& 63)
        · rw [brc_t hq, brc_t hq, bnd_t rfl, brc_f (show ¬ (1 : Int32) = 0 by decide), brc_t (show (0 : Int32) = 0 from rfl)]
          dsimp only
          rw [nI_add, nI_m1 (by omega)]
          by_cases hk : s + (n - 1) ≤ 249
          · rw [brc_t (by (first | exact Or.inl rfl | exact Or.inr rfl | assumption | (simp (disch := omega) only [z_le, z_lt, z_eq, vp_in_iff, z_nI, ix_nI, Int32.reduceToInt, ix0, ix1, ix2, ix3] <;> omega)))]
            exact r_seg_go hn (by omega) hs hk hd hcf hmf he
          · left
            refine ⟨nI s, 0, d 0 &&& 63, cf, -1, d 0 &&& 63, va_cpy d m_fragment 1 s (n - 1), ?_, m_seg_over hn (by omega) hs hk, hcf, byt_cpy hd hmf, Or.inl ⟨rfl, rfl⟩⟩
            rw [brc_f (by (first | exact Or.inl rfl | exact Or.inr rfl | assumption | (simp (disch := omega) only [z_le, z_lt, z_eq, vp_in_iff, z_nI, ix_nI, Int32.reduceToInt, ix0, ix1, ix2, ix3] <;> omega))), shut]
        · left
          refine ⟨nI s, 0, d 0 &&& 63, cf, -1, nu, m_fragment, ?_, ?_, hcf, hmf, Or.inl ⟨rfl, rfl⟩⟩
          · rw [brc_f hq, bnd_t rfl]
            dsimp only
            rw [shut]
            by_cases hz : ((nI s + nI n) - (1 : Int32)) ≤ 249
            · rw [brc_t hz]
            · rw [brc_f hz]
          · rw [brc_f hq, brc_t (show (0 : Int32) = 0 from rfl)]
    · rw [brc_f h64, brc_t ((byt64 hd 0).mpr h64), brc_f (show ¬ (1 : Int32) = 0 by decide), brc_f (show ¬ (1 : Int32) = 0 by decide), bnd_t rfl, brc_f (show ¬ (1 : Int32) = 0 by decide), brc_f (show ¬ (1 : Int32) = 0 by decide)]
      dsimp only
      rw [show ((0 : Int32) + nI n) = nI n by rw [show (0 : Int32) = nI 0 from rfl, nI_add, Nat.zero_add], nI_m1 (by omega), brc_t (by (first | exact Or.inl rfl | exact Or.inr rfl | assumption | (simp (disch := omega) only [z_le, z_lt, z_eq, vp_in_iff, z_nI, ix_nI, Int32.reduceToInt, ix0, ix1, ix2, ix3] <;> omega)))]
      exact r_seg_go (s := 0) hn (by omega) (by decide) (by omega) hd hcf hmf (fun i hi => absurd hi (by omega))
-- FILE 58.rows.txt
/-! the events of one class, on both sides -/
def rEv (c n : Nat) (an ki nu va ev : Nat → Int32) : Prop := ∀ k, k < n → ki k = ev (160 * c + 4 * k) ∧ nu k = ev (160 * c + 4 * k + 1) ∧ va k = ev (160 * c + 4 * k + 2) ∧ an k = ev (160 * c + 4 * k + 3) ∧ isB (an k) ∧ isB (ki k)
def same (c : Nat) (ev ev' : Nat → Int32) : Prop := ∀ x, x < 160 * c ∨ 160 * c + 160 ≤ x → ev' x = ev x
theorem rEv_other {c c' n : Nat} {an ki nu va ev ev' : Nat → Int32} (h : rEv c n an ki nu va ev) (hs : same c' ev ev') (hc : c ≠ c') (hn : n ≤ 40) : rEv c n an ki nu va ev' := by
  intro k hk
  obtain ⟨h1, h2, h3, h4, h5⟩ := h k hk
  refine ⟨?_, ?_, ?_, ?_, h5⟩
  · rw [hs _ (by omega)]; exact h1
  · rw [hs _ (by omega)]; exact h2
  · rw [hs _ (by omega)]; exact h3
  · rw [hs _ (by omega)]; exact h4
theorem rEv_less {c n n' : Nat} {an ki nu va ev : Nat → Int32} (h : rEv c n an ki nu va ev) (hn : n' ≤ n) : rEv c n' an ki nu va ev := fun k hk => h k (by omega)
/-! unmarking -/
def unk (an : Nat → Int32) (n : Nat) : Nat → Int32 := fun i => if i < n then 0 else an i
theorem c_unm_loop {N n : Nat} (hn : n ≤ N) (hN : N ≤ 40) : ∀ (j p k : Nat) (an : Nat → Int32), k + j = n → fX2_unmarkAll_L2 N (nI n) (p + j + 1) (nI k) (unk an k) = some (unk an n) := by
  intro j
  induction j with
  | zero =>
    intro p k an hk
    have hk : k = n := hk
    subst hk
    rw [fX2_unmarkAll_L2_s, brc_t (by (first | exact Or.inl rfl | exact Or.inr rfl | assumption | (simp (disch := omega) only [z_le, z_lt, z_eq, vp_in_iff, z_nI, ix_nI, Int32.reduceToInt, ix0, ix1, ix2, ix3] <;> omega)))]
  | succ j ih =>
    intro p k an hk
    rw [show p + (j + 1) + 1 = (p + j + 1) + 1 by omega, fX2_unmarkAll_L2_s, brc_f (by (first | exact Or.inl rfl | exact Or.inr rfl | assumption | (simp (disch := omega) only [z_le, z_lt, z_eq, vp_in_iff, z_nI, ix_nI, Int32.reduceToInt, ix0, ix1, ix2, ix3] <;> omega))), grd_t (by (first | exact Or.inl rfl | exact Or.inr rfl | assumption | (simp (disch := omega) only [z_le, z_lt, z_eq, vp_in_iff, z_nI, ix_nI, Int32.reduceToInt, ix0, ix1, ix2, ix3] <;> omega))), nI_1, ix_nI (by omega)]
    have e : upd (unk an k) k 0 = unk an (k + 1) := by
      funext i
      unfold upd unk
      by_cases h : i = k
      · rw [if_pos h, if_pos (by omega)]
      · rw [if_neg h]
        by_cases h2 : i < k
        · rw [if_pos h2, if_pos (by omega)]
        · rw [if_neg h2, if_neg (by omega)]
    rw [e]
    exact ih p (k + 1) an (by omega)
theorem unk_0 (an : Nat → Int32) : unk an 0 = an := by
  funext i
  unfold unk
  rw [if_neg (by omega)]
theorem c_unm {N n : Nat} {an : Nat → Int32} (hn : n ≤ N) (hN : N ≤ 40) : fX2_unmarkAll N (nI n) an = some (unk an n) := by
  unfold fX2_unmarkAll
  have e := c_unm_loop hn hN n (4999 - n) 0 an (by omega)
  rw [show 4999 - n + n + 1 = FU by unfold FU; omega, unk_0] at e
  exact e
def unm (ev : Nat → Int32) (q : Nat) : Nat → Int32 := fun i => if i % 4 = 3 ∧ i < 4 * q then 0 else ev i
theorem m_unm_loop {ev : Nat → Int32} : ∀ (j p q : Nat), q + j = 160 → fX10_unmark_L2 (p + j + 1) (nI (4 * q + 3)) (unm ev q) = some (unm ev 160) := by
  intro j
  induction j with
  | zero =>
    intro p q hq
    have hq : q = 160 := hq
    subst hq
    rw [fX10_unmark_L2_s, brc_t (by (first | exact Or.inl rfl | exact Or.inr rfl | assumption | (simp (disch := omega) only [z_le, z_lt, z_eq, vp_in_iff, z_nI, ix_nI, Int32.reduceToInt, ix0, ix1, ix2, ix3] <;> omega)))]
  | succ j ih =>
    intro p q hq
    rw [show p + (j + 1) + 1 = (p + j + 1) + 1 by omega, fX10_unmark_L2_s, brc_f (by (first | exact Or.inl rfl | exact Or.inr rfl | assumption | (simp (disch := omega) only [z_le, z_lt, z_eq, vp_in_iff, z_nI, ix_nI, Int32.reduceToInt, ix0, ix1, ix2, ix3] <;> omega))), grd_t (by (first | exact Or.inl rfl | exact Or.inr rfl | assumption | (simp (disch := omega) only [z_le, z_lt, z_eq, vp_in_iff, z_nI, ix_nI, Int32.reduceToInt, ix0, ix1, ix2, ix3] <;> omega))), show (4 : Int32) = nI 4 from rfl, nI_add, ix_nI (by omega)]
    have e : upd (unm ev q) (4 * q + 3) 0 = unm ev (q + 1) := by
      funext i
      unfold upd unm
      by_cases h : i = 4 * q + 3
      · rw [if_pos h, if_pos (by omega)]
      · rw [if_neg h]
        by_cases h2 : i % 4 = 3 ∧ i < 4 * q
        · rw [if_pos h2, if_pos (by omega)]
        · rw [if_neg h2, if_neg (by omega)]
    rw [e, show 4 * q + 3 + 4 = 4 * (q + 1) + 3 by omega]
    exact ih p (q + 1) (by omega)
theorem m_unm (ev : Nat → Int32) : fX10_unmark ev = some (unm ev 160) := by
  unfold fX10_unmark
  have e := m_unm_loop (ev := ev) 160 4839 0 rfl
  have e0 : unm ev 0 = ev := by
    funext i
    unfold unm
    rw [if_neg (by omega)]
  rw [e0] at e
  exact e
theorem rEv_unm {c n : Nat} {an ki nu va ev : Nat → Int32} (h : rEv c n an ki nu va ev) (hn : n ≤ 40) (hc : c ≤ 3) : rEv c n (unk an n) ki nu va (unm ev 160) := by
  intro k hk
  obtain ⟨h1, h2, h3, h4, h5, h6⟩ := h k hk
  have e : ∀ x, ¬ x % 4 = 3 → unm ev 160 x = ev x := fun x hx => if_neg (fun q => hx q.1)
  have e3 : unm ev 160 (160 * c + 4 * k + 3) = 0 := if_pos ⟨by omega, by omega⟩
  have e4 : unk an n k = 0 := if_pos hk
  refine ⟨?_, ?_, ?_, ?_, ?_, h6⟩
  · rw [e _ (by omega)]; exact h1
  · rw [e _ (by omega)]; exact h2
  · rw [e _ (by omega)]; exact h3
  · rw [e3, e4]
  · rw [e4]; exact Or.inl rfl
/-! moving -/
theorem c_move {N k j : Nat} {an ki nu va : Nat → Int32} (hk : k < N) (hj : j < N) (hN : N ≤ 40) (hb : isB (an k)) : fX2_move N (nI k) (nI j) an ki nu va = some (upd an j (an k), upd ki j (ki k), upd nu j (nu k), upd va j (va k)) := by
  unfold fX2_move
  have h1 : vp_in (nI k) N := vp_in_nI hk (by omega)
  have h2 : vp_in (nI j) N := vp_in_nI hj (by omega)
  rw [ix_nI (by omega), ix_nI (by omega), grd_t h1, grd_t h2, grd_t h1, grd_t h2, grd_t h1, grd_t h2, grd_t h1, grd_t h2, grd_t hb]
theorem m_place (c k : Nat) : fX10_place (nI c) (nI k) = some (nI (160 * c + 4 * k)) := by
  unfold fX10_place
  rw [show (160 : Int32) = nI 160 from rfl, show (4 : Int32) = nI 4 from rfl, pk_mul, pk_mul, nI_add]
theorem m_copy_loop {c k j : Nat} {ev : Nat → Int32} (hc : c ≤ 3) (hk : k < 40) (hj : j ≤ k) : ∀ (i p t : Nat), t + i = 4 → fX10_copy_L3 (p + i + 1) (nI c) (nI k) (nI j) (nI t) (va_cpy ev ev (160 * c + 4 * k) (160 * c + 4 * j) t) = some (va_cpy ev ev (160 * c + 4 * k) (160 * c + 4 * j) 4) := by
  intro i
  induction i with
  | zero =>
    intro p t ht
    have ht : t = 4 := ht
    subst ht
    rw [fX10_copy_L3_s, brc_t (by (first | exact Or.inl rfl | exact Or.inr rfl | assumption | (simp (disch := omega) only [z_le, z_lt, z_eq, vp_in_iff, z_nI, ix_nI, Int32.reduceToInt, ix0, ix1, ix2, ix3] <;> omega)))]
  | succ i ih =>
    intro p t ht
    rw [show p + (i + 1) + 1 = (p + i + 1) + 1 by omega, fX10_copy_L3_s, brc_f (by (first | exact Or.inl rfl | exact Or.inr rfl | assumption | (simp (disch := omega) only [z_le, z_lt, z_eq, vp_in_iff, z_nI, ix_nI, Int32.reduceToInt, ix0, ix1, ix2, ix3] <;> omega))), bnd_t (m_place c j), bnd_t (m_place c k), nI_add, nI_add, grd_t (by (first | exact Or.inl rfl | exact Or.inr rfl | assumption | (simp (disch := omega) only [z_le, z_lt, z_eq, vp_in_iff, z_nI, ix_nI, Int32.reduceToInt, ix0, ix1, ix2, ix3] <;> omega))), grd_t (by (first | exact Or.inl rfl | exact Or.inr rfl | assumption | (simp (disch := omega) only [z_le, z_lt, z_eq, vp_in_iff, z_nI, ix_nI, Int32.reduceToInt, ix0, ix1, ix2, ix3] <;> omega))), nI_1, ix_nI (by omega), ix_nI (by omega), pk_cpy_out (f := ev) (j := 160 * c + 4 * k + t) (by omega), cpy_step]
    exact ih p (t + 1) (by omega)
theorem m_copy {c k j : Nat} {ev : Nat → Int32} (hc : c ≤ 3) (hk : k < 40) (hj : j ≤ k) : fX10_copy (nI c) (nI k) (nI j) ev = some (va_cpy ev ev (160 * c + 4 * k) (160 * c + 4 * j) 4) := by
  unfold fX10_copy
  have e := m_copy_loop (ev := ev) hc hk hj 4 4995 0 rfl
  rw [cpy_0] at e
  exact e
theorem rEv_move {c n k j : Nat} {an ki nu va ev : Nat → Int32} (h : rEv c n an ki nu va ev) (hk : k < n) (hj : j < n) : rEv c n (upd an j (an k)) (upd ki j (ki k)) (upd nu j (nu k)) (upd va j (va k)) (va_cpy ev ev (160 * c + 4 * k) (160 * c + 4 * j) 4) := by
  intro x hx
  by_cases e : x = j
  · subst e
    obtain ⟨h1, h2, h3, h4, h5, h6⟩ := h k hk
    rw [pk_us, pk_us, pk_us, pk_us, pk_cpy_in (by omega) (by omega), pk_cpy_in (by omega) (by omega), pk_cpy_in (by omega) (by omega), pk_cpy_in (by omega) (by omega)]
    refine ⟨?_, ?_, ?_, ?_, h5, h6⟩
    · rw [show 160 * c + 4 * k + (160 * c + 4 * x - (160 * c + 4 * x)) = 160 * c + 4 * k by omega]; exact h1
    · rw [show 160 * c + 4 * k + (160 * c + 4 * x + 1 - (160 * c + 4 * x)) = 160 * c + 4 * k + 1 by omega]; exact h2
    · rw [show 160 * c + 4 * k + (160 * c + 4 * x + 2 - (160 * c + 4 * x)) = 160 * c + 4 * k + 2 by omega]; exact h3
    · rw [show 160 * c + 4 * k + (160 * c + 4 * x + 3 - (160 * c + 4 * x)) = 160 * c + 4 * k + 3 by omega]; exact h4
  · rw [pk_un e, pk_un e, pk_un e, pk_un e, pk_cpy_out (by omega), pk_cpy_out (by omega), pk_cpy_out (by omega), pk_cpy_out (by omega)]
    exact h x hx
theorem same_move {c k j : Nat} {ev : Nat → Int32} (hj : j < 40) : same c ev (va_cpy ev ev (160 * c + 4 * k) (160 * c + 4 * j) 4) := fun x hx => pk_cpy_out (by omega)
theorem same_rf {c : Nat} {ev : Nat → Int32} : same c ev ev := fun _ _ => rfl
theorem same_tr {c : Nat} {e1 e2 e3 : Nat → Int32} (h : same c e1 e2) (h' : same c e2 e3) : same c e1 e3 := fun x hx => (h' x hx).trans (h x hx)
/-! what is answered goes -/
theorem r_gone {N n c : Nat} {lo wa : Int32} {ec : Nat → Int32} {kk : Int32 → Int32 → Int32 → (Nat → Int32) → (Nat → Int32) → Option (Int32 × Int32 × (Nat → Int32) × (Nat → Int32))} (hn : n ≤ N) (hN : N ≤ 40) (hc : c ≤ 3) (hec : ec c = nI n) : ∀ (i p k j : Nat) (an ki nu va ev : Nat → Int32), k + i = n → j ≤ k → rEv c n an ki nu va ev →
    ∃ j' an' ki' nu' va' ev', j' ≤ n ∧ fX2_removeAnswered_L4 N (p + i + 1) (nI j) (nI k) (nI n) an ki nu va = some (nI j', an', ki', nu', va') ∧ (∀ p', fX10_confirm_L20 kk (p' + i + 1) (nI c) (nI j) (nI k) lo wa ec ev = kk (nI (c + 1)) lo wa (upd ec c (nI j')) ev') ∧ rEv c n an' ki' nu' va' ev' ∧ same c ev ev' := by
  intro i
  induction i with
  | zero =>
    intro p k j an ki nu va ev hk hj hr
    have hk : k = n := hk
    subst hk
    refine ⟨j, an, ki, nu, va, ev, hj, ?_, fun p' => ?_, hr, same_rf⟩
    · rw [fX2_removeAnswered_L4_s, brc_t (by (first | exact Or.inl rfl | exact Or.inr rfl | assumption | (simp (disch := omega) only [z_le, z_lt, z_eq, vp_in_iff, z_nI, ix_nI, Int32.reduceToInt, ix0, ix1, ix2, ix3] <;> omega)))]
    · rw [fX10_confirm_L20_s, grd_t (by (first | exact Or.inl rfl | exact Or.inr rfl | assumption | (simp (disch := omega) only [z_le, z_lt, z_eq, vp_in_iff, z_nI, ix_nI, Int32.reduceToInt, ix0, ix1, ix2, ix3] <;> omega))), ix_nI (by omega), hec, brc_t (by (first | exact Or.inl rfl | exact Or.inr rfl | assumption | (simp (disch := omega) only [z_le, z_lt, z_eq, vp_in_iff, z_nI, ix_nI, Int32.reduceToInt, ix0, ix1, ix2, ix3] <;> omega))), grd_t (by (first | exact Or.inl rfl | exact Or.inr rfl | assumption | (simp (disch := omega) only [z_le, z_lt, z_eq, vp_in_iff, z_nI, ix_nI, Int32.reduceToInt, ix0, ix1, ix2, ix3] <;> omega))), nI_1]
  | succ i ih =>
    intro p k j an ki nu va ev hk hj hr
    have hrk := hr k (by omega)
    rw [show p + (i + 1) + 1 = (p + i + 1) + 1 by omega, fX2_removeAnswered_L4_s, brc_f (by (first | exact Or.inl rfl | exact Or.inr rfl | assumption | (simp (disch := omega) only [z_le, z_lt, z_eq, vp_in_iff, z_nI, ix_nI, Int32.reduceToInt, ix0, ix1, ix2, ix3] <;> omega))), grd_t (by (first | exact Or.inl rfl | exact Or.inr rfl | assumption | (simp (disch := omega) only [z_le, z_lt, z_eq, vp_in_iff, z_nI, ix_nI, Int32.reduceToInt, ix0, ix1, ix2, ix3] <;> omega))), ix_nI (by omega)]
    unfold fX2_removeAnswered_L30
    by_cases h0 : an k = 0
    · obtain ⟨j', an', ki', nu', va', ev', g1, g2, g3, g4, g5⟩ := ih p (k + 1) (j + 1) _ _ _ _ _ (by omega) (by omega) (rEv_move hr (k := k) (j := j) (by omega) (by omega))
      refine ⟨j', an', ki', nu', va', ev', g1, ?_, fun p' => ?_, g4, same_tr (same_move (by omega)) g5⟩
      · rw [brc_t h0, bnd_t (c_move (by omega) (by omega) hN hrk.2.2.2.2.1), nI_1, nI_1]
        exact g2
      · rw [show p' + (i + 1) + 1 = (p' + i + 1) + 1 by omega, fX10_confirm_L20_s, grd_t (by (first | exact Or.inl rfl | exact Or.inr rfl | assumption | (simp (disch := omega) only [z_le, z_lt, z_eq, vp_in_iff, z_nI, ix_nI, Int32.reduceToInt, ix0, ix1, ix2, ix3] <;> omega))), ix_nI (by omega), hec, brc_f (by (first | exact Or.inl rfl | exact Or.inr rfl | assumption | (simp (disch := omega) only [z_le, z_lt, z_eq, vp_in_iff, z_nI, ix_nI, Int32.reduceToInt, ix0, ix1, ix2, ix3] <;> omega))), bnd_t (m_place c k), show (3 : Int32) = nI 3 from rfl, nI_add, grd_t (by (first | exact Or.inl rfl | exact Or.inr rfl | assumption | (simp (disch := omega) only [z_le, z_lt, z_eq, vp_in_iff, z_nI, ix_nI, Int32.reduceToInt, ix0, ix1, ix2, ix3] <;> omega))), ix_nI (by omega), brc_t (by rw [← hrk.2.2.2.1]; exact h0), bnd_t (m_copy hc (by omega) hj)]
        unfold fX10_confirm_L58
        rw [nI_1, nI_1]
        exact g3 p'
    · obtain ⟨j', an', ki', nu', va', ev', g1, g2, g3, g4, g5⟩ := ih p (k + 1) j an ki nu va ev (by omega) (by omega) hr
      refine ⟨j', an', ki', nu', va', ev', g1, ?_, fun p' => ?_, g4, g5⟩
      · rw [brc_f h0, nI_1]
        exact g2
      · rw [show p' + (i + 1) + 1 = (p' + i + 1) + 1 by omega, fX10_confirm_L20_s, grd_t (by (first | exact Or.inl rfl | exact Or.inr rfl | assumption | (simp (disch := omega) only [z_le, z_lt, z_eq, vp_in_iff, z_nI, ix_nI, Int32.reduceToInt, ix0, ix1, ix2, ix3] <;> omega))), ix_nI (by omega), hec, brc_f (by (first | exact Or.inl rfl | exact Or.inr rfl | assumption | (simp (disch := omega) only [z_le, z_lt, z_eq, vp_in_iff, z_nI, ix_nI, Int32.reduceToInt, ix0, ix1, ix2, ix3] <;> omega))), bnd_t (m_place c k), show (3 : Int32) = nI 3 from rfl, nI_add, grd_t (by (first | exact Or.inl rfl | exact Or.inr rfl | assumption | (simp (disch := omega) only [z_le, z_lt, z_eq, vp_in_iff, z_nI, ix_nI, Int32.reduceToInt, ix0, ix1, ix2, ix3] <;> omega))), ix_nI (by omega), brc_f (by rw [← hrk.2.2.2.1]; exact h0)]
        unfold fX10_confirm_L58
        rw [nI_1]
        exact g3 p'
