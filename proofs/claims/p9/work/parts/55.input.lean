/-! the bytes that come -/
theorem z_nat (x : Int32) : x.toInt = (x.toBitVec.toNat : Int) ∨ x.toInt = (x.toBitVec.toNat : Int) - 4294967296 := by
  show x.toBitVec.toInt = _ ∨ x.toBitVec.toInt = _
  rw [BitVec.toInt_eq_toNat_cond]
  split
  · exact Or.inl rfl
  · exact Or.inr rfl
def bte (w : Int32) (i : Nat) : Int32 := nI (w.toBitVec.toNat / 2 ^ (24 - 8 * i) % 2 ^ 8)
theorem bte_b (w : Int32) (i : Nat) : 0 ≤ (bte w i).toInt ∧ (bte w i).toInt ≤ 255 := by
  unfold bte
  have h : w.toBitVec.toNat / 2 ^ (24 - 8 * i) % 2 ^ 8 < 2 ^ 8 := Nat.mod_lt _ (by decide)
  rw [z_nI (by omega)]
  omega
theorem c_bte (w : Int32) {i : Nat} (h : i < 4) : (ushr w ((24 : Int32) - ((8 : Int32) * nI i))) &&& (255 : Int32) = bte w i := by
  unfold ushr bte
  rw [pk_and _ 8 (by decide)]
  rcases (show i = 0 ∨ i = 1 ∨ i = 2 ∨ i = 3 by omega) with rfl | rfl | rfl | rfl
  · rw [pk_ushr _ _ 24 (by decide +kernel)]
  · rw [pk_ushr _ _ 16 (by decide +kernel)]
  · rw [pk_ushr _ _ 8 (by decide +kernel)]
  · rw [pk_ushr _ _ 0 (by decide +kernel)]
theorem m_bte (w : Int32) {i : Nat} (h : i < 4) : (w >>> (((24 : Int32) - ((8 : Int32) * nI i)) &&& (31 : Int32))) &&& (255 : Int32) = bte w i := by
  have h1 := z_nat w
  unfold bte
  rw [z_eq, z_and255, z_nI (by have : w.toBitVec.toNat / 2 ^ (24 - 8 * i) % 2 ^ 8 < 2 ^ 8 := Nat.mod_lt _ (by decide)
                               omega)]
  rcases (show i = 0 ∨ i = 1 ∨ i = 2 ∨ i = 3 by omega) with rfl | rfl | rfl | rfl
  · rw [z_shr _ _ 24 (by decide +kernel)]
    omega
  · rw [z_shr _ _ 16 (by decide +kernel)]
    omega
  · rw [z_shr _ _ 8 (by decide +kernel)]
    omega
  · rw [z_shr _ _ 0 (by decide +kernel)]
    omega
def addB (w : Int32) : Nat → Nat → Nat → (Nat → Int32) → (Nat → Int32)
  | _, 0, _, f => f
  | i, k + 1, len, f => addB w (i + 1) k (len + 1) (upd f len (bte w i))
theorem byt_addB (w : Int32) : ∀ (k i len : Nat) (f : Nat → Int32), byt f → byt (addB w i k len f) := by
  intro k
  induction k with
  | zero => intro i len f h; exact h
  | succ k ih => intro i len f h; exact ih _ _ _ (byt_upd h (bte_b w i).1 (bte_b w i).2)
theorem c_addW_loop {w x2 : Int32} : ∀ (k m i len : Nat) (f : Nat → Int32), i + k ≤ 4 → len + k ≤ 311 → (i + k = 4 ∨ x2.toInt = ((i + k : Nat) : Int)) → ((i + k : Nat) : Int) ≤ x2.toInt → fX4_addWord_L2 (m + k + 1) w x2 (nI i) (nI len) f = some (nI (len + k), addB w i k len f) := by
  intro k
  induction k with
  | zero =>
    intro m i len f h1 h2 h3 h4
    rw [fX4_addWord_L2_s]
    unfold fX4_addWord_L60
    by_cases hi : i = 4
    · subst hi
      rw [brc_t (by (first | exact Or.inl rfl | exact Or.inr rfl | assumption | (simp (disch := omega) only [z_le, z_lt, z_eq, vp_in_iff, z_nI, ix_nI, Int32.reduceToInt, ix0, ix1, ix2, ix3] <;> omega)))]
      rfl
    · rw [brc_f (by (first | exact Or.inl rfl | exact Or.inr rfl | assumption | (simp (disch := omega) only [z_le, z_lt, z_eq, vp_in_iff, z_nI, ix_nI, Int32.reduceToInt, ix0, ix1, ix2, ix3] <;> omega))), brc_t (by (first | exact Or.inl rfl | exact Or.inr rfl | assumption | (simp (disch := omega) only [z_le, z_lt, z_eq, vp_in_iff, z_nI, ix_nI, Int32.reduceToInt, ix0, ix1, ix2, ix3] <;> omega)))]
      rfl
  | succ k ih =>
    intro m i len f h1 h2 h3 h4
    rw [show m + (k + 1) + 1 = (m + k + 1) + 1 by omega, fX4_addWord_L2_s]
    unfold fX4_addWord_L54
    rw [brc_f (by (first | exact Or.inl rfl | exact Or.inr rfl | assumption | (simp (disch := omega) only [z_le, z_lt, z_eq, vp_in_iff, z_nI, ix_nI, Int32.reduceToInt, ix0, ix1, ix2, ix3] <;> omega))), brc_f (by (first | exact Or.inl rfl | exact Or.inr rfl | assumption | (simp (disch := omega) only [z_le, z_lt, z_eq, vp_in_iff, z_nI, ix_nI, Int32.reduceToInt, ix0, ix1, ix2, ix3] <;> omega))), brc_f (by (first | exact Or.inl rfl | exact Or.inr rfl | assumption | (simp (disch := omega) only [z_le, z_lt, z_eq, vp_in_iff, z_nI, ix_nI, Int32.reduceToInt, ix0, ix1, ix2, ix3] <;> omega))), grd_t (by (first | exact Or.inl rfl | exact Or.inr rfl | assumption | (simp (disch := omega) only [z_le, z_lt, z_eq, vp_in_iff, z_nI, ix_nI, Int32.reduceToInt, ix0, ix1, ix2, ix3] <;> omega))), c_bte w (by omega), nI_1, nI_1, ix_nI (by omega), show len + (k + 1) = (len + 1) + k by omega]
    exact ih m (i + 1) (len + 1) _ (by omega) (by omega) (by omega) (by omega)
theorem c_addW {w x2 : Int32} {k len : Nat} {f : Nat → Int32} (h2 : len + k ≤ 311) (hk : (k : Int) = if x2.toInt < 0 then 0 else if x2.toInt < 4 then x2.toInt else 4) : fX4_addWord w x2 (nI len) f = some (nI (len + k), addB w 0 k len f) := by
  unfold fX4_addWord
  by_cases hn : x2.toInt < 0
  · rw [if_pos hn] at hk
    have hk : k = 0 := by omega
    subst hk
    rw [show FU = 4999 + 1 from rfl, fX4_addWord_L2_s, brc_f (show ¬ (4 : Int32) ≤ 0 by decide), brc_t (by (first | exact Or.inl rfl | exact Or.inr rfl | assumption | (simp (disch := omega) only [z_le, z_lt, z_eq, vp_in_iff, z_nI, ix_nI, Int32.reduceToInt, ix0, ix1, ix2, ix3] <;> omega)))]
    rfl
  · rw [if_neg hn] at hk
    have e := c_addW_loop (w := w) (x2 := x2) k (4999 - k) 0 len f (by split at hk <;> omega) h2 (by split at hk <;> omega) (by split at hk <;> omega)
    rw [show 4999 - k + k + 1 = FU by unfold FU; split at hk <;> omega] at e
    exact e
def w5 (a b c d e : Int32) (q : Nat) : Int32 := if q = 0 then a else if q = 1 then b else if q = 2 then c else if q = 3 then d else e
theorem m_in1 {m_address : Int32} {m_master : Int32} {m_timeout : Int32} {m_ticks : Int32} {m_analogs : Nat → Int32} {m_binaries : Nat → Int32} {x1 : Int32} {x2 : Int32} {x3 : Int32} {x4 : Int32} {x5 : Int32} {m_thrown : Int32} {m_good : Int32} {m_bad : Int32} {m_foreign : Int32} {m_requests : Int32} {m_acts : Int32} {m_wasReset : Int32} {m_nextCount : Int32} {m_dataSize : Int32} {m_fragmentSize : Int32} {m_segment : Int32} {m_requestSize : Int32} {m_answerSize : Int32} {m_sentSize : Int32} {m_sentNumber : Int32} {m_restarted : Int32} {m_lost : Int32} {m_waits : Int32} {m_selectedSize : Int32} {m_selectedSequence : Int32} {m_selectedTime : Int32} {m_faults : Int32} {m_hasEvents : Int32} {m_hasBinaries : Int32} {m_hasAnalogs : Int32} {m_answer : Nat → Int32} {m_data : Nat → Int32} {m_eventCounts : Nat → Int32} {m_events : Nat → Int32} {m_fragment : Nat → Int32} {m_frame : Nat → Int32} {m_relays : Nat → Int32} {m_request : Nat → Int32} {m_selected : Nat → Int32} {m_sent : Nat → Int32} {n q i p len : Nat} {f : Nat → Int32} (hn : n ≤ 20) (hi : i < 4) (hq : 4 * q + i < n) (hl : len < 400) : (fX10_feed_L34 m_address m_master m_timeout m_ticks m_analogs m_binaries (p + 1) x1 x2 x3 x4 x5 (nI n) (nI (4 * q + i)) m_thrown (nI len) m_good m_bad m_foreign m_requests m_acts m_wasReset m_nextCount m_dataSize m_fragmentSize m_segment m_requestSize m_answerSize m_sentSize m_sentNumber m_restarted m_lost m_waits m_selectedSize m_selectedSequence m_selectedTime m_faults m_hasEvents m_hasBinaries m_hasAnalogs m_answer m_data m_eventCounts m_events m_fragment m_frame m_relays m_request f m_selected m_sent) = (fX10_feed_L34 m_address m_master m_timeout m_ticks m_analogs m_binaries p x1 x2 x3 x4 x5 (nI n) (nI (4 * q + (i + 1))) m_thrown (nI (len + 1)) m_good m_bad m_foreign m_requests m_acts m_wasReset m_nextCount m_dataSize m_fragmentSize m_segment m_requestSize m_answerSize m_sentSize m_sentNumber m_restarted m_lost m_waits m_selectedSize m_selectedSequence m_selectedTime m_faults m_hasEvents m_hasBinaries m_hasAnalogs m_answer m_data m_eventCounts m_events m_fragment m_frame m_relays m_request (upd f len (bte (w5 x1 x2 x3 x4 x5 q) i)) m_selected m_sent) := by
  have hr : nI (4 * q + i) - nI (4 * q + i) / (4 : Int32) * (4 : Int32) = nI i := by
    have e := pk_rem (a := 4 * q + i) (d := 4) (by omega) (by decide) (by decide)
    rw [show (4 * q + i) % 4 = i by omega] at e
    exact e
  rw [fX10_feed_L34_s, brc_f (by (first | exact Or.inl rfl | exact Or.inr rfl | assumption | (simp (disch := omega) only [z_le, z_lt, z_eq, vp_in_iff, z_nI, ix_nI, Int32.reduceToInt, ix0, ix1, ix2, ix3] <;> omega)))]
  unfold fX10_feed_L87
  rw [hr, nI_1, nI_1, m_bte x1 hi, m_bte x2 hi, m_bte x3 hi, m_bte x4 hi, m_bte x5 hi, grd_t (by (first | exact Or.inl rfl | exact Or.inr rfl | assumption | (simp (disch := omega) only [z_le, z_lt, z_eq, vp_in_iff, z_nI, ix_nI, Int32.reduceToInt, ix0, ix1, ix2, ix3] <;> omega))), grd_t (by (first | exact Or.inl rfl | exact Or.inr rfl | assumption | (simp (disch := omega) only [z_le, z_lt, z_eq, vp_in_iff, z_nI, ix_nI, Int32.reduceToInt, ix0, ix1, ix2, ix3] <;> omega))), grd_t (by (first | exact Or.inl rfl | exact Or.inr rfl | assumption | (simp (disch := omega) only [z_le, z_lt, z_eq, vp_in_iff, z_nI, ix_nI, Int32.reduceToInt, ix0, ix1, ix2, ix3] <;> omega))), grd_t (by (first | exact Or.inl rfl | exact Or.inr rfl | assumption | (simp (disch := omega) only [z_le, z_lt, z_eq, vp_in_iff, z_nI, ix_nI, Int32.reduceToInt, ix0, ix1, ix2, ix3] <;> omega))), grd_t (by (first | exact Or.inl rfl | exact Or.inr rfl | assumption | (simp (disch := omega) only [z_le, z_lt, z_eq, vp_in_iff, z_nI, ix_nI, Int32.reduceToInt, ix0, ix1, ix2, ix3] <;> omega))), ix_nI (by omega)]
  rcases (show q = 0 ∨ q = 1 ∨ q = 2 ∨ q = 3 ∨ q = 4 by omega) with rfl | rfl | rfl | rfl | rfl
  · rw [brc_f (by (first | exact Or.inl rfl | exact Or.inr rfl | assumption | (simp (disch := omega) only [z_le, z_lt, z_eq, vp_in_iff, z_nI, ix_nI, Int32.reduceToInt, ix0, ix1, ix2, ix3] <;> omega)))]
    rfl
  · rw [brc_t (by (first | exact Or.inl rfl | exact Or.inr rfl | assumption | (simp (disch := omega) only [z_le, z_lt, z_eq, vp_in_iff, z_nI, ix_nI, Int32.reduceToInt, ix0, ix1, ix2, ix3] <;> omega))), brc_f (by (first | exact Or.inl rfl | exact Or.inr rfl | assumption | (simp (disch := omega) only [z_le, z_lt, z_eq, vp_in_iff, z_nI, ix_nI, Int32.reduceToInt, ix0, ix1, ix2, ix3] <;> omega)))]
    rfl
  · rw [brc_t (by (first | exact Or.inl rfl | exact Or.inr rfl | assumption | (simp (disch := omega) only [z_le, z_lt, z_eq, vp_in_iff, z_nI, ix_nI, Int32.reduceToInt, ix0, ix1, ix2, ix3] <;> omega))), brc_t (by (first | exact Or.inl rfl | exact Or.inr rfl | assumption | (simp (disch := omega) only [z_le, z_lt, z_eq, vp_in_iff, z_nI, ix_nI, Int32.reduceToInt, ix0, ix1, ix2, ix3] <;> omega))), brc_f (by (first | exact Or.inl rfl | exact Or.inr rfl | assumption | (simp (disch := omega) only [z_le, z_lt, z_eq, vp_in_iff, z_nI, ix_nI, Int32.reduceToInt, ix0, ix1, ix2, ix3] <;> omega)))]
    rfl
  · rw [brc_t (by (first | exact Or.inl rfl | exact Or.inr rfl | assumption | (simp (disch := omega) only [z_le, z_lt, z_eq, vp_in_iff, z_nI, ix_nI, Int32.reduceToInt, ix0, ix1, ix2, ix3] <;> omega))), brc_t (by (first | exact Or.inl rfl | exact Or.inr rfl | assumption | (simp (disch := omega) only [z_le, z_lt, z_eq, vp_in_iff, z_nI, ix_nI, Int32.reduceToInt, ix0, ix1, ix2, ix3] <;> omega))), brc_t (by (first | exact Or.inl rfl | exact Or.inr rfl | assumption | (simp (disch := omega) only [z_le, z_lt, z_eq, vp_in_iff, z_nI, ix_nI, Int32.reduceToInt, ix0, ix1, ix2, ix3] <;> omega))), brc_f (by (first | exact Or.inl rfl | exact Or.inr rfl | assumption | (simp (disch := omega) only [z_le, z_lt, z_eq, vp_in_iff, z_nI, ix_nI, Int32.reduceToInt, ix0, ix1, ix2, ix3] <;> omega)))]
    rfl
  · rw [brc_t (by (first | exact Or.inl rfl | exact Or.inr rfl | assumption | (simp (disch := omega) only [z_le, z_lt, z_eq, vp_in_iff, z_nI, ix_nI, Int32.reduceToInt, ix0, ix1, ix2, ix3] <;> omega))), brc_t (by (first | exact Or.inl rfl | exact Or.inr rfl | assumption | (simp (disch := omega) only [z_le, z_lt, z_eq, vp_in_iff, z_nI, ix_nI, Int32.reduceToInt, ix0, ix1, ix2, ix3] <;> omega))), brc_t (by (first | exact Or.inl rfl | exact Or.inr rfl | assumption | (simp (disch := omega) only [z_le, z_lt, z_eq, vp_in_iff, z_nI, ix_nI, Int32.reduceToInt, ix0, ix1, ix2, ix3] <;> omega))), brc_t (by (first | exact Or.inl rfl | exact Or.inr rfl | assumption | (simp (disch := omega) only [z_le, z_lt, z_eq, vp_in_iff, z_nI, ix_nI, Int32.reduceToInt, ix0, ix1, ix2, ix3] <;> omega)))]
    rfl
theorem m_inq {m_address : Int32} {m_master : Int32} {m_timeout : Int32} {m_ticks : Int32} {m_analogs : Nat → Int32} {m_binaries : Nat → Int32} {x1 : Int32} {x2 : Int32} {x3 : Int32} {x4 : Int32} {x5 : Int32} {m_thrown : Int32} {m_good : Int32} {m_bad : Int32} {m_foreign : Int32} {m_requests : Int32} {m_acts : Int32} {m_wasReset : Int32} {m_nextCount : Int32} {m_dataSize : Int32} {m_fragmentSize : Int32} {m_segment : Int32} {m_requestSize : Int32} {m_answerSize : Int32} {m_sentSize : Int32} {m_sentNumber : Int32} {m_restarted : Int32} {m_lost : Int32} {m_waits : Int32} {m_selectedSize : Int32} {m_selectedSequence : Int32} {m_selectedTime : Int32} {m_faults : Int32} {m_hasEvents : Int32} {m_hasBinaries : Int32} {m_hasAnalogs : Int32} {m_answer : Nat → Int32} {m_data : Nat → Int32} {m_eventCounts : Nat → Int32} {m_events : Nat → Int32} {m_fragment : Nat → Int32} {m_frame : Nat → Int32} {m_relays : Nat → Int32} {m_request : Nat → Int32} {m_selected : Nat → Int32} {m_sent : Nat → Int32} {n q : Nat} (hn : n ≤ 20) : ∀ (k p i len : Nat) (f : Nat → Int32), i + k ≤ 4 → 4 * q + i + k ≤ n → len + k ≤ 400 → (fX10_feed_L34 m_address m_master m_timeout m_ticks m_analogs m_binaries (p + k) x1 x2 x3 x4 x5 (nI n) (nI (4 * q + i)) m_thrown (nI len) m_good m_bad m_foreign m_requests m_acts m_wasReset m_nextCount m_dataSize m_fragmentSize m_segment m_requestSize m_answerSize m_sentSize m_sentNumber m_restarted m_lost m_waits m_selectedSize m_selectedSequence m_selectedTime m_faults m_hasEvents m_hasBinaries m_hasAnalogs m_answer m_data m_eventCounts m_events m_fragment m_frame m_relays m_request f m_selected m_sent) = (fX10_feed_L34 m_address m_master m_timeout m_ticks m_analogs m_binaries p x1 x2 x3 x4 x5 (nI n) (nI (4 * q + (i + k))) m_thrown (nI (len + k)) m_good m_bad m_foreign m_requests m_acts m_wasReset m_nextCount m_dataSize m_fragmentSize m_segment m_requestSize m_answerSize m_sentSize m_sentNumber m_restarted m_lost m_waits m_selectedSize m_selectedSequence m_selectedTime m_faults m_hasEvents m_hasBinaries m_hasAnalogs m_answer m_data m_eventCounts m_events m_fragment m_frame m_relays m_request (addB (w5 x1 x2 x3 x4 x5 q) i k len f) m_selected m_sent) := by
  intro k
  induction k with
  | zero => intro p i len f _ _ _; rfl
  | succ k ih =>
    intro p i len f h1 h2 h3
    rw [show p + (k + 1) = (p + k) + 1 by omega, m_in1 hn (by omega) (by omega) (by omega), ih p (i + 1) (len + 1) _ (by omega) (by omega) (by omega), show i + 1 + k = i + (k + 1) by omega, show len + 1 + k = len + (k + 1) by omega]
    rfl
def inB (a b c d e : Int32) (n len : Nat) (f : Nat → Int32) : Nat → Int32 := addB e 0 (n - 16) (len + min n 4 + min (n - 4) 4 + min (n - 8) 4 + min (n - 12) 4) (addB d 0 (min (n - 12) 4) (len + min n 4 + min (n - 4) 4 + min (n - 8) 4) (addB c 0 (min (n - 8) 4) (len + min n 4 + min (n - 4) 4) (addB b 0 (min (n - 4) 4) (len + min n 4) (addB a 0 (min n 4) len f))))
theorem byt_inB {a b c d e : Int32} {n len : Nat} {f : Nat → Int32} (h : byt f) : byt (inB a b c d e n len f) := byt_addB _ _ _ _ _ (byt_addB _ _ _ _ _ (byt_addB _ _ _ _ _ (byt_addB _ _ _ _ _ (byt_addB _ _ _ _ _ h))))
theorem m_in {m_address : Int32} {m_master : Int32} {m_timeout : Int32} {m_ticks : Int32} {m_analogs : Nat → Int32} {m_binaries : Nat → Int32} {x1 : Int32} {x2 : Int32} {x3 : Int32} {x4 : Int32} {x5 : Int32} {m_thrown : Int32} {m_good : Int32} {m_bad : Int32} {m_foreign : Int32} {m_requests : Int32} {m_acts : Int32} {m_wasReset : Int32} {m_nextCount : Int32} {m_dataSize : Int32} {m_fragmentSize : Int32} {m_segment : Int32} {m_requestSize : Int32} {m_answerSize : Int32} {m_sentSize : Int32} {m_sentNumber : Int32} {m_restarted : Int32} {m_lost : Int32} {m_waits : Int32} {m_selectedSize : Int32} {m_selectedSequence : Int32} {m_selectedTime : Int32} {m_faults : Int32} {m_hasEvents : Int32} {m_hasBinaries : Int32} {m_hasAnalogs : Int32} {m_answer : Nat → Int32} {m_data : Nat → Int32} {m_eventCounts : Nat → Int32} {m_events : Nat → Int32} {m_fragment : Nat → Int32} {m_frame : Nat → Int32} {m_relays : Nat → Int32} {m_request : Nat → Int32} {m_selected : Nat → Int32} {m_sent : Nat → Int32} {n p len : Nat} {f : Nat → Int32} (hn : n ≤ 20) (h1 : 1 ≤ n) (hl : len ≤ 291) : (fX10_feed_L34 m_address m_master m_timeout m_ticks m_analogs m_binaries (p + n + 1) x1 x2 x3 x4 x5 (nI n) 0 m_thrown (nI len) m_good m_bad m_foreign m_requests m_acts m_wasReset m_nextCount m_dataSize m_fragmentSize m_segment m_requestSize m_answerSize m_sentSize m_sentNumber m_restarted m_lost m_waits m_selectedSize m_selectedSequence m_selectedTime m_faults m_hasEvents m_hasBinaries m_hasAnalogs m_answer m_data m_eventCounts m_events m_fragment m_frame m_relays m_request f m_selected m_sent) = (fX10_feed_L140 m_address m_master m_timeout m_ticks m_analogs m_binaries FU m_good 1 m_thrown (nI (len + n)) m_good m_bad m_foreign m_requests m_acts m_wasReset m_nextCount m_dataSize m_fragmentSize m_segment m_requestSize m_answerSize m_sentSize m_sentNumber m_restarted m_lost m_waits m_selectedSize m_selectedSequence m_selectedTime m_faults m_hasEvents m_hasBinaries m_hasAnalogs m_answer m_data m_eventCounts m_events m_fragment m_frame m_relays m_request (inB x1 x2 x3 x4 x5 n len f) m_selected m_sent) := by
  have e0 := m_inq (m_address := m_address) (m_master := m_master) (m_timeout := m_timeout) (m_ticks := m_ticks) (m_analogs := m_analogs) (m_binaries := m_binaries) (x1 := x1) (x2 := x2) (x3 := x3) (x4 := x4) (x5 := x5) (m_thrown := m_thrown) (m_good := m_good) (m_bad := m_bad) (m_foreign := m_foreign) (m_requests := m_requests) (m_acts := m_acts) (m_wasReset := m_wasReset) (m_nextCount := m_nextCount) (m_dataSize := m_dataSize) (m_fragmentSize := m_fragmentSize) (m_segment := m_segment) (m_requestSize := m_requestSize) (m_answerSize := m_answerSize) (m_sentSize := m_sentSize) (m_sentNumber := m_sentNumber) (m_restarted := m_restarted) (m_lost := m_lost) (m_waits := m_waits) (m_selectedSize := m_selectedSize) (m_selectedSequence := m_selectedSequence) (m_selectedTime := m_selectedTime) (m_faults := m_faults) (m_hasEvents := m_hasEvents) (m_hasBinaries := m_hasBinaries) (m_hasAnalogs := m_hasAnalogs) (m_answer := m_answer) (m_data := m_data) (m_eventCounts := m_eventCounts) (m_events := m_events) (m_fragment := m_fragment) (m_frame := m_frame) (m_relays := m_relays) (m_request := m_request) (m_selected := m_selected) (m_sent := m_sent) (n := n) (q := 0) hn (min n 4) (p + 1 + (n - 16) + min (n - 12) 4 + min (n - 8) 4 + min (n - 4) 4) 0 len f (by omega) (by omega) (by omega)
  have e1 := m_inq (m_address := m_address) (m_master := m_master) (m_timeout := m_timeout) (m_ticks := m_ticks) (m_analogs := m_analogs) (m_binaries := m_binaries) (x1 := x1) (x2 := x2) (x3 := x3) (x4 := x4) (x5 := x5) (m_thrown := m_thrown) (m_good := m_good) (m_bad := m_bad) (m_foreign := m_foreign) (m_requests := m_requests) (m_acts := m_acts) (m_wasReset := m_wasReset) (m_nextCount := m_nextCount) (m_dataSize := m_dataSize) (m_fragmentSize := m_fragmentSize) (m_segment := m_segment) (m_requestSize := m_requestSize) (m_answerSize := m_answerSize) (m_sentSize := m_sentSize) (m_sentNumber := m_sentNumber) (m_restarted := m_restarted) (m_lost := m_lost) (m_waits := m_waits) (m_selectedSize := m_selectedSize) (m_selectedSequence := m_selectedSequence) (m_selectedTime := m_selectedTime) (m_faults := m_faults) (m_hasEvents := m_hasEvents) (m_hasBinaries := m_hasBinaries) (m_hasAnalogs := m_hasAnalogs) (m_answer := m_answer) (m_data := m_data) (m_eventCounts := m_eventCounts) (m_events := m_events) (m_fragment := m_fragment) (m_frame := m_frame) (m_relays := m_relays) (m_request := m_request) (m_selected := m_selected) (m_sent := m_sent) (n := n) (q := 1) hn (min (n - 4) 4) (p + 1 + (n - 16) + min (n - 12) 4 + min (n - 8) 4) 0 (len + min n 4) (addB x1 0 (min n 4) len f) (by omega)
  have e2 := m_inq (m_address := m_address) (m_master := m_master) (m_timeout := m_timeout) (m_ticks := m_ticks) (m_analogs := m_analogs) (m_binaries := m_binaries) (x1 := x1) (x2 := x2) (x3 := x3) (x4 := x4) (x5 := x5) (m_thrown := m_thrown) (m_good := m_good) (m_bad := m_bad) (m_foreign := m_foreign) (m_requests := m_requests) (m_acts := m_acts) (m_wasReset := m_wasReset) (m_nextCount := m_nextCount) (m_dataSize := m_dataSize) (m_fragmentSize := m_fragmentSize) (m_segment := m_segment) (m_requestSize := m_requestSize) (m_answerSize := m_answerSize) (m_sentSize := m_sentSize) (m_sentNumber := m_sentNumber) (m_restarted := m_restarted) (m_lost := m_lost) (m_waits := m_waits) (m_selectedSize := m_selectedSize) (m_selectedSequence := m_selectedSequence) (m_selectedTime := m_selectedTime) (m_faults := m_faults) (m_hasEvents := m_hasEvents) (m_hasBinaries := m_hasBinaries) (m_hasAnalogs := m_hasAnalogs) (m_answer := m_answer) (m_data := m_data) (m_eventCounts := m_eventCounts) (m_events := m_events) (m_fragment := m_fragment) (m_frame := m_frame) (m_relays := m_relays) (m_request := m_request) (m_selected := m_selected) (m_sent := m_sent) (n := n) (q := 2) hn (min (n - 8) 4) (p + 1 + (n - 16) + min (n - 12) 4) 0 (len + min n 4 + min (n - 4) 4) (addB x2 0 (min (n - 4) 4) (len + min n 4) (addB x1 0 (min n 4) len f)) (by omega)
  have e3 := m_inq (m_address := m_address) (m_master := m_master) (m_timeout := m_timeout) (m_ticks := m_ticks) (m_analogs := m_analogs) (m_binaries := m_binaries) (x1 := x1) (x2 := x2) (x3 := x3) (x4 := x4) (x5 := x5) (m_thrown := m_thrown) (m_good := m_good) (m_bad := m_bad) (m_foreign := m_foreign) (m_requests := m_requests) (m_acts := m_acts) (m_wasReset := m_wasReset) (m_nextCount := m_nextCount) (m_dataSize := m_dataSize) (m_fragmentSize := m_fragmentSize) (m_segment := m_segment) (m_requestSize := m_requestSize) (m_answerSize := m_answerSize) (m_sentSize := m_sentSize) (m_sentNumber := m_sentNumber) (m_restarted := m_restarted) (m_lost := m_lost) (m_waits := m_waits) (m_selectedSize := m_selectedSize) (m_selectedSequence := m_selectedSequence) (m_selectedTime := m_selectedTime) (m_faults := m_faults) (m_hasEvents := m_hasEvents) (m_hasBinaries := m_hasBinaries) (m_hasAnalogs := m_hasAnalogs) (m_answer := m_answer) (m_data := m_data) (m_eventCounts := m_eventCounts) (m_events := m_events) (m_fragment := m_fragment) (m_frame := m_frame) (m_relays := m_relays) (m_request := m_request) (m_selected := m_selected) (m_sent := m_sent) (n := n) (q := 3) hn (min (n - 12) 4) (p + 1 + (n - 16)) 0 (len + min n 4 + min (n - 4) 4 + min (n - 8) 4) (addB x3 0 (min (n - 8) 4) (len + min n 4 + min (n - 4) 4) (addB x2 0 (min (n - 4) 4) (len + min n 4) (addB x1 0 (min n 4) len f))) (by omega)
  have e4 := m_inq (m_address := m_address) (m_master := m_master) (m_timeout := m_timeout) (m_ticks := m_ticks) (m_analogs := m_analogs) (m_binaries := m_binaries) (x1 := x1) (x2 := x2) (x3 := x3) (x4 := x4) (x5 := x5) (m_thrown := m_thrown) (m_good := m_good) (m_bad := m_bad) (m_foreign := m_foreign) (m_requests := m_requests) (m_acts := m_acts) (m_wasReset := m_wasReset) (m_nextCount := m_nextCount) (m_dataSize := m_dataSize) (m_fragmentSize := m_fragmentSize) (m_segment := m_segment) (m_requestSize := m_requestSize) (m_answerSize := m_answerSize) (m_sentSize := m_sentSize) (m_sentNumber := m_sentNumber) (m_restarted := m_restarted) (m_lost := m_lost) (m_waits := m_waits) (m_selectedSize := m_selectedSize) (m_selectedSequence := m_selectedSequence) (m_selectedTime := m_selectedTime) (m_faults := m_faults) (m_hasEvents := m_hasEvents) (m_hasBinaries := m_hasBinaries) (m_hasAnalogs := m_hasAnalogs) (m_answer := m_answer) (m_data := m_data) (m_eventCounts := m_eventCounts) (m_events := m_events) (m_fragment := m_fragment) (m_frame := m_frame) (m_relays := m_relays) (m_request := m_request) (m_selected := m_selected) (m_sent := m_sent) (n := n) (q := 4) hn (n - 16) (p + 1) 0 (len + min n 4 + min (n - 4) 4 + min (n - 8) 4 + min (n - 12) 4) (addB x4 0 (min (n - 12) 4) (len + min n 4 + min (n - 4) 4 + min (n - 8) 4) (addB x3 0 (min (n - 8) 4) (len + min n 4 + min (n - 4) 4) (addB x2 0 (min (n - 4) 4) (len + min n 4) (addB x1 0 (min n 4) len f)))) (by omega)
  have fin : (fX10_feed_L34 m_address m_master m_timeout m_ticks m_analogs m_binaries (p + 1) x1 x2 x3 x4 x5 (nI n) (nI n) m_thrown (nI (len + n)) m_good m_bad m_foreign m_requests m_acts m_wasReset m_nextCount m_dataSize m_fragmentSize m_segment m_requestSize m_answerSize m_sentSize m_sentNumber m_restarted m_lost m_waits m_selectedSize m_selectedSequence m_selectedTime m_faults m_hasEvents m_hasBinaries m_hasAnalogs m_answer m_data m_eventCounts m_events m_fragment m_frame m_relays m_request (inB x1 x2 x3 x4 x5 n len f) m_selected m_sent) = (fX10_feed_L140 m_address m_master m_timeout m_ticks m_analogs m_binaries FU m_good 1 m_thrown (nI (len + n)) m_good m_bad m_foreign m_requests m_acts m_wasReset m_nextCount m_dataSize m_fragmentSize m_segment m_requestSize m_answerSize m_sentSize m_sentNumber m_restarted m_lost m_waits m_selectedSize m_selectedSequence m_selectedTime m_faults m_hasEvents m_hasBinaries m_hasAnalogs m_answer m_data m_eventCounts m_events m_fragment m_frame m_relays m_request (inB x1 x2 x3 x4 x5 n len f) m_selected m_sent) := by
    rw [fX10_feed_L34_s, brc_t (by (first | exact Or.inl rfl | exact Or.inr rfl | assumption | (simp (disch := omega) only [z_le, z_lt, z_eq, vp_in_iff, z_nI, ix_nI, Int32.reduceToInt, ix0, ix1, ix2, ix3] <;> omega)))]
  refine Eq.trans ?_ fin
  rw [show p + n + 1 = p + 1 + (n - 16) + min (n - 12) 4 + min (n - 8) 4 + min (n - 4) 4 + min n 4 by omega]
  refine Eq.trans e0 ?_
  rcases Nat.lt_or_ge n 5 with h | h
  · rw [show n - 16 = 0 by omega, show n - 12 = 0 by omega, show n - 8 = 0 by omega, show n - 4 = 0 by omega, show min n 4 = n by omega]
    unfold inB
    rw [show n - 16 = 0 by omega, show n - 12 = 0 by omega, show n - 8 = 0 by omega, show n - 4 = 0 by omega, show min n 4 = n by omega, show 4 * 0 + (0 + n) = n by omega]
    rfl
  · have e1 := e1 (by omega) (by omega)
    rw [show 4 * 0 + (0 + min n 4) = 4 * 1 + 0 by omega]
    refine Eq.trans e1 ?_
    rcases Nat.lt_or_ge n 9 with h9 | h9
    · rw [show n - 16 = 0 by omega, show n - 12 = 0 by omega, show n - 8 = 0 by omega, show 4 * 1 + (0 + min (n - 4) 4) = n by omega, show len + min n 4 + min (n - 4) 4 = len + n by omega]
      unfold inB
      rw [show n - 16 = 0 by omega, show n - 12 = 0 by omega, show n - 8 = 0 by omega]
      rfl
    · have e2 := e2 (by omega) (by omega)
      rw [show 4 * 1 + (0 + min (n - 4) 4) = 4 * 2 + 0 by omega]
      refine Eq.trans e2 ?_
      rcases Nat.lt_or_ge n 13 with h13 | h13
      · rw [show n - 16 = 0 by omega, show n - 12 = 0 by omega, show 4 * 2 + (0 + min (n - 8) 4) = n by omega, show len + min n 4 + min (n - 4) 4 + min (n - 8) 4 = len + n by omega]
        unfold inB
        rw [show n - 16 = 0 by omega, show n - 12 = 0 by omega]
        rfl
      · have e3 := e3 (by omega) (by omega)
        rw [show 4 * 2 + (0 + min (n - 8) 4) = 4 * 3 + 0 by omega]
        refine Eq.trans e3 ?_
        rcases Nat.lt_or_ge n 17 with h17 | h17
        · rw [show n - 16 = 0 by omega, show 4 * 3 + (0 + min (n - 12) 4) = n by omega, show len + min n 4 + min (n - 4) 4 + min (n - 8) 4 + min (n - 12) 4 = len + n by omega]
          unfold inB
          rw [show n - 16 = 0 by omega]
          rfl
        · have e4 := e4 (by omega) (by omega)
          rw [show 4 * 3 + (0 + min (n - 12) 4) = 4 * 4 + 0 by omega]
          refine Eq.trans e4 ?_
          rw [show 4 * 4 + (0 + (n - 16)) = n by omega, show len + min n 4 + min (n - 4) 4 + min (n - 8) 4 + min (n - 12) 4 + (n - 16) = len + n by omega]
          rfl
