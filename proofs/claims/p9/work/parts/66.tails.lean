/-! a request that came before; a write -/
def rReq (al rl : Int32) (cr : Nat → Int32) (as rs : Int32) (mr : Nat → Int32) : Prop :=
  (rl = 0 ∧ rs = -1) ∨ (∃ n s : Nat, 2 ≤ n ∧ n ≤ 249 ∧ s ≤ 249 ∧ rl = nI n ∧ rs = nI n ∧ al = nI (s + 1) ∧ as = nI s ∧ ∀ i, i < n → cr i = mr i)
theorem r_write {n : Nat} {rs flt mfl : Int32} {p f : Nat → Int32} (hn : n ≤ 249) (hp : ∀ i, i < n → p i = f i) (hb : isB rs) : ok2 (fX9_write 249 p (nI n) rs flt) (fX10_write f (nI n) rs mfl) (fun o o' => o.1 = o'.1 ∧ isB o.1) := by
  unfold fX9_write fX9_write_L55 fX9_write_L56 fX9_write_L77 fX0_addFault fX10_write fX10_write_L73
  have no : ok2 (brc ((0 : Int32) = 0) (bnd (some (flt ||| 4)) (fun u1 => some (rs, u1))) (some ((0 : Int32), flt))) (fX10_write_L74 f 0 rs mfl) (fun o o' => o.1 = o'.1 ∧ isB o.1) := by
    unfold fX10_write_L74 fX10_write_L91 fX10_write_L92 fX10_write_L113
    rw [brc_t rfl, bnd_t rfl]
    rcases hb with rfl | rfl
    · rw [brc_t rfl, grd_t (by (first | exact Or.inl rfl | exact Or.inr rfl | assumption | (simp (disch := omega) only [z_le, z_lt, z_eq, vp_in_iff, z_nI, ix_nI, Int32.reduceToInt, ix0, ix1, ix2, ix3] <;> omega))), brc_t rfl]
      exact ok2_ss ⟨rfl, Or.inl rfl⟩
    · rw [brc_f (by decide), brc_t rfl, grd_t (by (first | exact Or.inl rfl | exact Or.inr rfl | assumption | (simp (disch := omega) only [z_le, z_lt, z_eq, vp_in_iff, z_nI, ix_nI, Int32.reduceToInt, ix0, ix1, ix2, ix3] <;> omega))), brc_t rfl]
      exact ok2_ss ⟨rfl, Or.inr rfl⟩
  have yes : ok2 (brc ((1 : Int32) = 0) (bnd (some (flt ||| 4)) (fun u1 => some (rs, u1))) (some ((0 : Int32), flt))) (fX10_write_L74 f 1 rs mfl) (fun o o' => o.1 = o'.1 ∧ isB o.1) := by
    unfold fX10_write_L74 fX10_write_L91 fX10_write_L92 fX10_write_L113
    rw [brc_f (by decide)]
    rcases hb with rfl | rfl
    · rw [brc_t rfl, grd_t (by (first | exact Or.inl rfl | exact Or.inr rfl | assumption | (simp (disch := omega) only [z_le, z_lt, z_eq, vp_in_iff, z_nI, ix_nI, Int32.reduceToInt, ix0, ix1, ix2, ix3] <;> omega))), brc_f (by decide)]
      exact ok2_ss ⟨rfl, Or.inl rfl⟩
    · rw [brc_f (show ¬ (1 : Int32) = 0 by decide), brc_f (show ¬ (1 : Int32) = 0 by decide), grd_t (by (first | exact Or.inl rfl | exact Or.inr rfl | assumption | (simp (disch := omega) only [z_le, z_lt, z_eq, vp_in_iff, z_nI, ix_nI, Int32.reduceToInt, ix0, ix1, ix2, ix3] <;> omega))), brc_f (by decide)]
      exact ok2_ss ⟨rfl, Or.inl rfl⟩
  by_cases h8 : n = 8
  · subst h8
    rw [brc_t (show nI 8 = 8 from rfl), brc_t (show nI 8 = 8 from rfl), grd_t (show vp_in 2 249 from vp_in_nI (n := 2) (by decide) (by decide)), grd_t (show vp_in 3 249 from vp_in_nI (n := 3) (by decide) (by decide)), grd_t (show vp_in 4 249 from vp_in_nI (n := 4) (by decide) (by decide)), grd_t (show vp_in 5 249 from vp_in_nI (n := 5) (by decide) (by decide)), grd_t (show vp_in 6 249 from vp_in_nI (n := 6) (by decide) (by decide)), grd_t (show vp_in 7 249 from vp_in_nI (n := 7) (by decide) (by decide)), ix2, ix3, ix4, ix5, ix6, ix7, hp 2 (by decide), hp 3 (by decide), hp 4 (by decide), hp 5 (by decide), hp 6 (by decide), hp 7 (by decide)]
    by_cases q2 : f 2 = 80
    · rw [brc_t q2, brc_t q2]
      by_cases q3 : f 3 = 1
      · rw [brc_t q3, brc_t q3]
        by_cases q4 : f 4 = 0
        · rw [brc_t q4, brc_t q4]
          by_cases q5 : f 5 = 7
          · rw [brc_t q5, brc_t q5]
            by_cases q6 : f 6 = 7
            · rw [brc_t q6, brc_t q6]
              by_cases q7 : f 7 = 0
              · rw [brc_t q7, brc_t q7]
                exact yes
              · rw [brc_f q7, brc_f q7]
                exact no
            · rw [brc_f q6, brc_f q6]
              exact no
          · rw [brc_f q5, brc_f q5]
            exact no
        · rw [brc_f q4, brc_f q4]
          exact no
      · rw [brc_f q3, brc_f q3]
        exact no
    · rw [brc_f q2, brc_f q2]
      exact no
  · have hq : ¬ nI n = 8 := fun q => h8 ((nI_eq (b := 8) (by omega) (by decide)).mp q)
    rw [brc_f hq, brc_f hq]
    exact no
theorem m_diff {m_address : Int32} {m_master : Int32} {m_timeout : Int32} {m_ticks : Int32} {m_analogs : Nat → Int32} {m_binaries : Nat → Int32} {m_fragment : Nat → Int32} {m_requests : Int32} {m_acts : Int32} {m_requestSize : Int32} {m_answerSize : Int32} {m_sentSize : Int32} {m_sentNumber : Int32} {m_restarted : Int32} {m_lost : Int32} {m_waits : Int32} {m_selectedSize : Int32} {m_selectedSequence : Int32} {m_selectedTime : Int32} {m_faults : Int32} {m_hasEvents : Int32} {m_hasBinaries : Int32} {m_hasAnalogs : Int32} {m_answer : Nat → Int32} {m_eventCounts : Nat → Int32} {m_events : Nat → Int32} {m_frame : Nat → Int32} {m_relays : Nat → Int32} {m_request : Nat → Int32} {m_selected : Nat → Int32} {m_sent : Nat → Int32} {n k p : Nat} : (fX10_ask_L26 m_address m_master m_timeout m_ticks m_analogs m_binaries m_fragment (p + 1) (nI n) 0 (nI k) m_requests m_acts m_requestSize m_answerSize m_sentSize m_sentNumber m_restarted m_lost m_waits m_selectedSize m_selectedSequence m_selectedTime m_faults m_hasEvents m_hasBinaries m_hasAnalogs m_answer m_eventCounts m_events m_frame m_relays m_request m_selected m_sent) = (fX10_ask_L62 m_address m_master m_timeout m_ticks m_analogs m_binaries m_fragment (nI n) 0 m_requests m_acts m_requestSize m_answerSize m_sentSize m_sentNumber m_restarted m_lost m_waits m_selectedSize m_selectedSequence m_selectedTime m_faults m_hasEvents m_hasBinaries m_hasAnalogs m_answer m_eventCounts m_events m_frame m_relays m_request m_selected m_sent) := by
  rw [fX10_ask_L26_s]
  by_cases h : nI n ≤ nI k
  · rw [brc_t h]
  · rw [brc_f h, brc_t rfl]
theorem r_same_loop {m_address : Int32} {m_master : Int32} {m_timeout : Int32} {m_ticks : Int32} {m_analogs : Nat → Int32} {m_binaries : Nat → Int32} {m_fragment : Nat → Int32} {m_requests : Int32} {m_acts : Int32} {m_requestSize : Int32} {m_answerSize : Int32} {m_sentSize : Int32} {m_sentNumber : Int32} {m_restarted : Int32} {m_lost : Int32} {m_waits : Int32} {m_selectedSize : Int32} {m_selectedSequence : Int32} {m_selectedTime : Int32} {m_faults : Int32} {m_hasEvents : Int32} {m_hasBinaries : Int32} {m_hasAnalogs : Int32} {m_answer : Nat → Int32} {m_eventCounts : Nat → Int32} {m_events : Nat → Int32} {m_frame : Nat → Int32} {m_relays : Nat → Int32} {m_request : Nat → Int32} {m_selected : Nat → Int32} {m_sent : Nat → Int32} {rl : Int32} {cr p : Nat → Int32} {n : Nat} (hn : n ≤ 249) (hp : ∀ i, i < n → p i = m_fragment i) (hr : ∀ i, i < n → cr i = m_request i) : ∀ (i a b k : Nat), k + i = n → ∃ sm : Int32, isB sm ∧ fX0_isFor_L12 249 rl cr p (a + i + 1) (nI n) (nI k) = some sm ∧ (fX10_ask_L26 m_address m_master m_timeout m_ticks m_analogs m_binaries m_fragment (b + i + 1) (nI n) 1 (nI k) m_requests m_acts m_requestSize m_answerSize m_sentSize m_sentNumber m_restarted m_lost m_waits m_selectedSize m_selectedSequence m_selectedTime m_faults m_hasEvents m_hasBinaries m_hasAnalogs m_answer m_eventCounts m_events m_frame m_relays m_request m_selected m_sent) = (fX10_ask_L62 m_address m_master m_timeout m_ticks m_analogs m_binaries m_fragment (nI n) sm m_requests m_acts m_requestSize m_answerSize m_sentSize m_sentNumber m_restarted m_lost m_waits m_selectedSize m_selectedSequence m_selectedTime m_faults m_hasEvents m_hasBinaries m_hasAnalogs m_answer m_eventCounts m_events m_frame m_relays m_request m_selected m_sent) := by
  intro i
  induction i with
  | zero =>
    intro a b k hk
    have hk : k = n := hk
    subst hk
    have hkk : nI k ≤ nI k := nI_le (Nat.le_refl _) (by omega)
    refine ⟨1, Or.inr rfl, ?_, ?_⟩
    · rw [fX0_isFor_L12_s, brc_t hkk]
    · rw [fX10_ask_L26_s, brc_t hkk]
  | succ i ih =>
    intro a b k hk
    have hnk : ¬ nI n ≤ nI k := nI_ge (by omega) (by omega)
    rw [show a + (i + 1) + 1 = (a + i + 1) + 1 by omega, show b + (i + 1) + 1 = (b + i + 1) + 1 by omega, fX0_isFor_L12_s, fX10_ask_L26_s]
    unfold fX10_ask_L55
    rw [brc_f hnk, brc_f hnk, brc_f (show ¬ (1 : Int32) = 0 by decide), grd_t (show vp_in (nI k) 249 from vp_in_nI (by omega) (by decide)), grd_t (show vp_in (nI k) 249 from vp_in_nI (by omega) (by decide)), grd_t (show vp_in (nI k) 600 from vp_in_nI (by omega) (by decide)), grd_t (show vp_in (nI k) 260 from vp_in_nI (by omega) (by decide)), ix_nI (by omega), hp k (by omega), hr k (by omega), nI_1]
    by_cases h : m_fragment k = m_request k
    · obtain ⟨sm, g0, g1, g2⟩ := ih a b (k + 1) (by omega)
      refine ⟨sm, g0, ?_, ?_⟩
      · rw [brc_t h]; exact g1
      · rw [brc_t h]; exact g2
    · refine ⟨0, Or.inl rfl, ?_, ?_⟩
      · rw [brc_f h]
      · rw [brc_f h]
        exact m_diff (p := b + i)
theorem r_same {m_address : Int32} {m_master : Int32} {m_timeout : Int32} {m_ticks : Int32} {m_analogs : Nat → Int32} {m_binaries : Nat → Int32} {m_fragment : Nat → Int32} {m_requests : Int32} {m_acts : Int32} {m_requestSize : Int32} {m_answerSize : Int32} {m_sentSize : Int32} {m_sentNumber : Int32} {m_restarted : Int32} {m_lost : Int32} {m_waits : Int32} {m_selectedSize : Int32} {m_selectedSequence : Int32} {m_selectedTime : Int32} {m_faults : Int32} {m_hasEvents : Int32} {m_hasBinaries : Int32} {m_hasAnalogs : Int32} {m_answer : Nat → Int32} {m_eventCounts : Nat → Int32} {m_events : Nat → Int32} {m_frame : Nat → Int32} {m_relays : Nat → Int32} {m_request : Nat → Int32} {m_selected : Nat → Int32} {m_sent : Nat → Int32} {al rl : Int32} {cr p : Nat → Int32} {n : Nat} (h2 : 2 ≤ n) (hn : n ≤ 249) (hp : ∀ i, i < n → p i = m_fragment i) (hr : rReq al rl cr m_answerSize m_requestSize m_request) : ∃ sm : Int32, isB sm ∧ fX0_isFor 249 rl cr p (nI n) = some sm ∧ (fX10_ask m_address m_master m_timeout m_ticks m_analogs m_binaries m_fragment (nI n) m_requests m_acts m_requestSize m_answerSize m_sentSize m_sentNumber m_restarted m_lost m_waits m_selectedSize m_selectedSequence m_selectedTime m_faults m_hasEvents m_hasBinaries m_hasAnalogs m_answer m_eventCounts m_events m_frame m_relays m_request m_selected m_sent) = (fX10_ask_L62 m_address m_master m_timeout m_ticks m_analogs m_binaries m_fragment (nI n) sm (m_requests + 1) m_acts m_requestSize m_answerSize m_sentSize m_sentNumber m_restarted m_lost m_waits m_selectedSize m_selectedSequence m_selectedTime m_faults m_hasEvents m_hasBinaries m_hasAnalogs m_answer m_eventCounts m_events m_frame m_relays m_request m_selected m_sent) ∧ (sm = 1 → ∃ s : Nat, s ≤ 249 ∧ al = nI (s + 1) ∧ m_answerSize = nI s) := by
  unfold fX0_isFor fX10_ask fX10_ask_L23
  rcases hr with ⟨rfl, hs⟩ | ⟨n', s, q2, q3, q4, rfl, hs, q5, q6, q7⟩
  · refine ⟨0, Or.inl rfl, ?_, ?_, fun q => absurd q (by decide)⟩
    · rw [brc_f (nI_ne0 (by omega) (by omega))]
    · rw [hs, brc_f (show ¬ nI n = -1 by
        intro q
        have e := congrArg Int32.toInt q
        rw [z_nI (by omega), show (-1 : Int32).toInt = -1 from rfl] at e
        omega)]
      rw [← hs]
      exact m_diff (k := 0) (p := 4999)
  · by_cases hnn : n = n'
    · subst hnn
      obtain ⟨sm, g0, g1, g2⟩ := r_same_loop (m_address := m_address) (m_master := m_master) (m_timeout := m_timeout) (m_ticks := m_ticks) (m_analogs := m_analogs) (m_binaries := m_binaries) (m_fragment := m_fragment) (m_requests := m_requests + 1) (m_acts := m_acts) (m_requestSize := m_requestSize) (m_answerSize := m_answerSize) (m_sentSize := m_sentSize) (m_sentNumber := m_sentNumber) (m_restarted := m_restarted) (m_lost := m_lost) (m_waits := m_waits) (m_selectedSize := m_selectedSize) (m_selectedSequence := m_selectedSequence) (m_selectedTime := m_selectedTime) (m_faults := m_faults) (m_hasEvents := m_hasEvents) (m_hasBinaries := m_hasBinaries) (m_hasAnalogs := m_hasAnalogs) (m_answer := m_answer) (m_eventCounts := m_eventCounts) (m_events := m_events) (m_frame := m_frame) (m_relays := m_relays) (m_request := m_request) (m_selected := m_selected) (m_sent := m_sent) (rl := nI n) hn hp q7 n (4999 - n) (4999 - n) 0 (by omega)
      rw [show 4999 - n + n + 1 = FU by unfold FU; omega] at g1 g2
      refine ⟨sm, g0, ?_, ?_, fun _ => ⟨s, q4, q5, q6⟩⟩
      · rw [brc_t rfl]
        exact g1
      · rw [brc_t hs.symm]
        exact g2
    · refine ⟨0, Or.inl rfl, ?_, ?_, fun q => absurd q (by decide)⟩
      · rw [brc_f (fun q => hnn ((nI_eq (by omega) (by omega)).mp q))]
      · rw [brc_f (fun q => hnn ((nI_eq (by omega) (by omega)).mp (q.trans hs)))]
        exact m_diff (k := 0) (p := 4999)
/-! an answer's end: the reference -/
theorem m_left {m_address : Int32} {m_master : Int32} {m_timeout : Int32} {m_ticks : Int32} {m_analogs : Nat → Int32} {m_binaries : Nat → Int32} {m_fragment : Nat → Int32} {x1 : Int32} {x3 : Int32} {m_requests : Int32} {m_acts : Int32} {m_requestSize : Int32} {m_answerSize : Int32} {m_sentSize : Int32} {m_sentNumber : Int32} {m_restarted : Int32} {m_lost : Int32} {m_waits : Int32} {m_selectedSize : Int32} {m_selectedSequence : Int32} {m_selectedTime : Int32} {m_faults : Int32} {m_hasEvents : Int32} {m_hasBinaries : Int32} {m_hasAnalogs : Int32} {m_answer : Nat → Int32} {m_eventCounts : Nat → Int32} {m_events : Nat → Int32} {m_frame : Nat → Int32} {m_relays : Nat → Int32} {m_request : Nat → Int32} {m_selected : Nat → Int32} {m_sent : Nat → Int32} {k : Int32 → Int32 → Int32 → Int32 → Int32 → Int32 → Int32 → Int32 → Int32 → Int32 → Int32 → Int32 → Int32 → Int32 → Int32 → Int32 → Int32 → Int32 → Int32 → Int32 → (Nat → Int32) → (Nat → Int32) → (Nat → Int32) → (Nat → Int32) → (Nat → Int32) → (Nat → Int32) → (Nat → Int32) → (Nat → Int32) → Option (Int32 × Int32 × Int32 × Int32 × Int32 × Int32 × Int32 × Int32 × Int32 × Int32 × Int32 × Int32 × Int32 × Int32 × Int32 × Int32 × (Nat → Int32) × (Nat → Int32) × (Nat → Int32) × (Nat → Int32) × (Nat → Int32) × (Nat → Int32) × (Nat → Int32) × (Nat → Int32))} {c n : Nat} (hc : c ≤ 3) (hn : n ≤ 40) (he : m_eventCounts c = nI n) : ∀ (i p q : Nat) (x5 : Int32), q + i = n → ∃ x5' : Int32, (fX10_ask_L278 m_address m_master m_timeout m_ticks m_analogs m_binaries m_fragment k (p + i + 1) x1 x3 x5 (nI c) (nI q) m_requests m_acts m_requestSize m_answerSize m_sentSize m_sentNumber m_restarted m_lost m_waits m_selectedSize m_selectedSequence m_selectedTime m_faults m_hasEvents m_hasBinaries m_hasAnalogs m_answer m_eventCounts m_events m_frame m_relays m_request m_selected m_sent) = (k x1 x3 (x5') (nI (c + 1)) m_requests m_acts m_requestSize m_answerSize m_sentSize m_sentNumber m_restarted m_lost m_waits m_selectedSize m_selectedSequence m_selectedTime m_faults m_hasEvents m_hasBinaries m_hasAnalogs m_answer m_eventCounts m_events m_frame m_relays m_request m_selected m_sent) := by
  intro i
  induction i with
  | zero =>
    intro p q x5 hq
    have hq : q = n := hq
    subst hq
    refine ⟨x5, ?_⟩
    rw [fX10_ask_L278_s, grd_t (show vp_in (nI c) 4 from vp_in_nI (by omega) (by decide)), ix_nI (by omega), he, brc_t (show nI q ≤ nI q from nI_le (Nat.le_refl _) (by omega)), nI_1]
  | succ i ih =>
    intro p q x5 hq
    obtain ⟨y1, e1⟩ := ih p (q + 1) (x5 ||| ((1 : Int32) <<< (nI c &&& (31 : Int32)))) (by omega)
    obtain ⟨y2, e2⟩ := ih p (q + 1) x5 (by omega)
    rw [show p + (i + 1) + 1 = (p + i + 1) + 1 by omega, fX10_ask_L278_s, grd_t (show vp_in (nI c) 4 from vp_in_nI (by omega) (by decide)), ix_nI (by omega), he, brc_f (show ¬ nI n ≤ nI q from nI_ge (by omega) (by omega)), bnd_t (m_place c q), show (3 : Int32) = nI 3 from rfl, nI_add, grd_t (show vp_in (nI (160 * c + 4 * q + 3)) 640 from vp_in_nI (by omega) (by decide))]
    unfold fX10_ask_L319
    rw [nI_1]
    by_cases h : m_events (ix (nI (160 * c + 4 * q + 3))) = 0
    · exact ⟨y1, by rw [brc_t h]; exact e1⟩
    · exact ⟨y2, by rw [brc_f h]; exact e2⟩
theorem m_left1 {m_address : Int32} {m_master : Int32} {m_timeout : Int32} {m_ticks : Int32} {m_analogs : Nat → Int32} {m_binaries : Nat → Int32} {m_fragment : Nat → Int32} {x1 : Int32} {x3 : Int32} {m_requests : Int32} {m_acts : Int32} {m_requestSize : Int32} {m_answerSize : Int32} {m_sentSize : Int32} {m_sentNumber : Int32} {m_restarted : Int32} {m_lost : Int32} {m_waits : Int32} {m_selectedSize : Int32} {m_selectedSequence : Int32} {m_selectedTime : Int32} {m_faults : Int32} {m_hasEvents : Int32} {m_hasBinaries : Int32} {m_hasAnalogs : Int32} {m_answer : Nat → Int32} {m_eventCounts : Nat → Int32} {m_events : Nat → Int32} {m_frame : Nat → Int32} {m_relays : Nat → Int32} {m_request : Nat → Int32} {m_selected : Nat → Int32} {m_sent : Nat → Int32} {k : Int32 → Int32 → Int32 → Int32 → Int32 → Int32 → Int32 → Int32 → Int32 → Int32 → Int32 → Int32 → Int32 → Int32 → Int32 → Int32 → Int32 → Int32 → Int32 → Int32 → (Nat → Int32) → (Nat → Int32) → (Nat → Int32) → (Nat → Int32) → (Nat → Int32) → (Nat → Int32) → (Nat → Int32) → (Nat → Int32) → Option (Int32 × Int32 × Int32 × Int32 × Int32 × Int32 × Int32 × Int32 × Int32 × Int32 × Int32 × Int32 × Int32 × Int32 × Int32 × Int32 × (Nat → Int32) × (Nat → Int32) × (Nat → Int32) × (Nat → Int32) × (Nat → Int32) × (Nat → Int32) × (Nat → Int32) × (Nat → Int32))} {c n : Nat} (hc : c ≤ 3) (hn : n ≤ 40) (he : m_eventCounts c = nI n) (x5 : Int32) : ∃ x5' : Int32, (fX10_ask_L278 m_address m_master m_timeout m_ticks m_analogs m_binaries m_fragment k FU x1 x3 x5 (nI c) 0 m_requests m_acts m_requestSize m_answerSize m_sentSize m_sentNumber m_restarted m_lost m_waits m_selectedSize m_selectedSequence m_selectedTime m_faults m_hasEvents m_hasBinaries m_hasAnalogs m_answer m_eventCounts m_events m_frame m_relays m_request m_selected m_sent) = (k x1 x3 (x5') (nI (c + 1)) m_requests m_acts m_requestSize m_answerSize m_sentSize m_sentNumber m_restarted m_lost m_waits m_selectedSize m_selectedSequence m_selectedTime m_faults m_hasEvents m_hasBinaries m_hasAnalogs m_answer m_eventCounts m_events m_frame m_relays m_request m_selected m_sent) := by
  have e := m_left (m_address := m_address) (m_master := m_master) (m_timeout := m_timeout) (m_ticks := m_ticks) (m_analogs := m_analogs) (m_binaries := m_binaries) (m_fragment := m_fragment) (x1 := x1) (x3 := x3) (m_requests := m_requests) (m_acts := m_acts) (m_requestSize := m_requestSize) (m_answerSize := m_answerSize) (m_sentSize := m_sentSize) (m_sentNumber := m_sentNumber) (m_restarted := m_restarted) (m_lost := m_lost) (m_waits := m_waits) (m_selectedSize := m_selectedSize) (m_selectedSequence := m_selectedSequence) (m_selectedTime := m_selectedTime) (m_faults := m_faults) (m_hasEvents := m_hasEvents) (m_hasBinaries := m_hasBinaries) (m_hasAnalogs := m_hasAnalogs) (m_answer := m_answer) (m_eventCounts := m_eventCounts) (m_events := m_events) (m_frame := m_frame) (m_relays := m_relays) (m_request := m_request) (m_selected := m_selected) (m_sent := m_sent) (k := k) hc hn he n (4999 - n) 0 x5 (by omega)
  rw [show 4999 - n + n + 1 = FU by unfold FU; omega] at e
  exact e
theorem m_reqs {m_address : Int32} {m_master : Int32} {m_timeout : Int32} {m_ticks : Int32} {m_analogs : Nat → Int32} {m_binaries : Nat → Int32} {m_fragment : Nat → Int32} {m_requests : Int32} {m_acts : Int32} {m_requestSize : Int32} {m_sentNumber : Int32} {m_restarted : Int32} {m_lost : Int32} {m_waits : Int32} {m_selectedSize : Int32} {m_selectedSequence : Int32} {m_selectedTime : Int32} {m_faults : Int32} {m_hasEvents : Int32} {m_hasBinaries : Int32} {m_hasAnalogs : Int32} {m_answer : Nat → Int32} {m_eventCounts : Nat → Int32} {m_events : Nat → Int32} {m_frame : Nat → Int32} {m_relays : Nat → Int32} {m_selected : Nat → Int32} {m_sent : Nat → Int32} {n s ss : Nat} {mr : Nat → Int32} (hn : n ≤ 249) (hs : s ≤ 249) (hss : ss ≤ 4000) : ∀ (j p k : Nat), k + j = n → ∃ sn' fr' se', (fX10_ask_L389 m_address m_master m_timeout m_ticks m_analogs m_binaries m_fragment (p + j + 1) (nI n) (nI k) m_requests m_acts m_requestSize (nI s) (nI ss) m_sentNumber m_restarted m_lost m_waits m_selectedSize m_selectedSequence m_selectedTime m_faults m_hasEvents m_hasBinaries m_hasAnalogs m_answer m_eventCounts m_events m_frame m_relays (va_cpy m_fragment mr 0 0 k) m_selected m_sent) = some (m_requests, m_acts, m_requestSize, nI s, nI (sndl ss (s + 1)), sn', m_restarted, m_lost, m_waits, m_selectedSize, m_selectedSequence, m_selectedTime, m_faults, m_hasEvents, m_hasBinaries, m_hasAnalogs, m_answer, m_eventCounts, m_events, fr', m_relays, va_cpy m_fragment mr 0 0 n, m_selected, se') := by
  intro j
  induction j with
  | zero =>
    intro p k hk
    have hk : k = n := hk
    subst hk
    obtain ⟨u, e, hu⟩ := m_send (a := m_address) (m := m_master) (x1 := 68) (sn := m_sentNumber) (an := m_answer) (frame := m_frame) (sent := m_sent) (many := s + 1) (ss := ss) (by omega) hss
    refine ⟨u.2.1, u.2.2.1, u.2.2.2, ?_⟩
    rw [fX10_ask_L389_s, brc_t (show nI k ≤ nI k from nI_le (Nat.le_refl _) (by omega)), nI_1, bnd_t e, hu]
  | succ j ih =>
    intro p k hk
    rw [show p + (j + 1) + 1 = (p + j + 1) + 1 by omega, fX10_ask_L389_s, brc_f (show ¬ nI n ≤ nI k from nI_ge (by omega) (by omega)), grd_t (show vp_in (nI k) 600 from vp_in_nI (by omega) (by decide)), grd_t (show vp_in (nI k) 260 from vp_in_nI (by omega) (by decide)), nI_1, ix_nI (by omega)]
    have e := cpy_step (f := m_fragment) (g := mr) (sp := 0) (dp := 0) (k := k)
    rw [Nat.zero_add] at e
    rw [e]
    exact ih p (k + 1) (by omega)
theorem m_tail {m_address : Int32} {m_master : Int32} {m_timeout : Int32} {m_ticks : Int32} {m_analogs : Nat → Int32} {m_binaries : Nat → Int32} {m_fragment : Nat → Int32} {x3 : Int32} {m_requests : Int32} {m_acts : Int32} {m_requestSize : Int32} {m_sentNumber : Int32} {m_restarted : Int32} {m_lost : Int32} {m_waits : Int32} {m_selectedSize : Int32} {m_selectedSequence : Int32} {m_selectedTime : Int32} {m_faults : Int32} {m_hasEvents : Int32} {m_hasBinaries : Int32} {m_hasAnalogs : Int32} {m_answer : Nat → Int32} {m_eventCounts : Nat → Int32} {m_events : Nat → Int32} {m_frame : Nat → Int32} {m_relays : Nat → Int32} {m_request : Nat → Int32} {m_selected : Nat → Int32} {m_sent : Nat → Int32} {n s ss n0 n1 n2 : Nat} (hn : n ≤ 249) (hs : s ≤ 249) (hss : ss ≤ 4000) (h0 : n0 ≤ 40) (h1 : n1 ≤ 40) (h2 : n2 ≤ 40) (e1 : m_eventCounts 1 = nI n0) (e2 : m_eventCounts 2 = nI n1) (e3 : m_eventCounts 3 = nI n2) : ∃ sn' an' fr' se', (fX10_ask_L216 m_address m_master m_timeout m_ticks m_analogs m_binaries m_fragment (nI n) x3 m_requests m_acts m_requestSize (nI s) (nI ss) m_sentNumber m_restarted m_lost m_waits m_selectedSize m_selectedSequence m_selectedTime m_faults m_hasEvents m_hasBinaries m_hasAnalogs m_answer m_eventCounts m_events m_frame m_relays m_request m_selected m_sent) = some (m_requests, m_acts, nI n, nI s, nI (sndl ss (s + 1)), sn', m_restarted, m_lost, @ite _ (m_hasEvents = 0) (Classical.propDecidable _) (-1) x3, m_selectedSize, m_selectedSequence, m_selectedTime, m_faults, m_hasEvents, m_hasBinaries, m_hasAnalogs, an', m_eventCounts, m_events, fr', m_relays, va_cpy m_fragment m_request 0 0 n, m_selected, se') := by
  -- from the loop over the classes on
  have fin : ∀ (an : Nat → Int32) (x5 : Int32) (p : Nat), ∃ sn' an' fr' se', (fX10_ask_L269 m_address m_master m_timeout m_ticks m_analogs m_binaries m_fragment (p + 1) (nI n) x3 x5 4 m_requests m_acts m_requestSize (nI s) (nI ss) m_sentNumber m_restarted m_lost m_waits m_selectedSize m_selectedSequence m_selectedTime m_faults m_hasEvents m_hasBinaries m_hasAnalogs an m_eventCounts m_events m_frame m_relays m_request m_selected m_sent) = some (m_requests, m_acts, nI n, nI s, nI (sndl ss (s + 1)), sn', m_restarted, m_lost, @ite _ (m_hasEvents = 0) (Classical.propDecidable _) (-1) x3, m_selectedSize, m_selectedSequence, m_selectedTime, m_faults, m_hasEvents, m_hasBinaries, m_hasAnalogs, an', m_eventCounts, m_events, fr', m_relays, va_cpy m_fragment m_request 0 0 n, m_selected, se') := by
    intro an x5 p
    rw [fX10_ask_L269_s, brc_t (show (4 : Int32) ≤ 4 by decide)]
    unfold fX10_ask_L363 fX10_ask_L378
    have key : ∀ (an1 : Nat → Int32) (wx : Int32), ∃ sn' fr' se', (fX10_ask_L389 m_address m_master m_timeout m_ticks m_analogs m_binaries m_fragment FU (nI n) 0 m_requests m_acts (nI n) (nI s) (nI ss) m_sentNumber m_restarted m_lost wx m_selectedSize m_selectedSequence m_selectedTime m_faults m_hasEvents m_hasBinaries m_hasAnalogs an1 m_eventCounts m_events m_frame m_relays m_request m_selected m_sent) = some (m_requests, m_acts, nI n, nI s, nI (sndl ss (s + 1)), sn', m_restarted, m_lost, wx, m_selectedSize, m_selectedSequence, m_selectedTime, m_faults, m_hasEvents, m_hasBinaries, m_hasAnalogs, an1, m_eventCounts, m_events, fr', m_relays, va_cpy m_fragment m_request 0 0 n, m_selected, se') := by
      intro an1 wx
      have e := m_reqs (m_address := m_address) (m_master := m_master) (m_timeout := m_timeout) (m_ticks := m_ticks) (m_analogs := m_analogs) (m_binaries := m_binaries) (m_fragment := m_fragment) (m_requests := m_requests) (m_acts := m_acts) (m_requestSize := nI n) (m_sentNumber := m_sentNumber) (m_restarted := m_restarted) (m_lost := m_lost) (m_waits := wx) (m_selectedSize := m_selectedSize) (m_selectedSequence := m_selectedSequence) (m_selectedTime := m_selectedTime) (m_faults := m_faults) (m_hasEvents := m_hasEvents) (m_hasBinaries := m_hasBinaries) (m_hasAnalogs := m_hasAnalogs) (m_answer := an1) (m_eventCounts := m_eventCounts) (m_events := m_events) (m_frame := m_frame) (m_relays := m_relays) (m_selected := m_selected) (m_sent := m_sent) (mr := m_request) hn hs hss n (4999 - n) 0 (by omega)
      rw [show 4999 - n + n + 1 = FU by unfold FU; omega, cpy_0] at e
      exact e
    have k2 : ∀ (an1 : Nat → Int32), ∃ sn' an' fr' se', brc (m_hasEvents = 0) (fX10_ask_L389 m_address m_master m_timeout m_ticks m_analogs m_binaries m_fragment FU (nI n) 0 m_requests m_acts (nI n) (nI s) (nI ss) m_sentNumber m_restarted m_lost (-1 : Int32) m_selectedSize m_selectedSequence m_selectedTime m_faults m_hasEvents m_hasBinaries m_hasAnalogs an1 m_eventCounts m_events m_frame m_relays m_request m_selected m_sent) (fX10_ask_L389 m_address m_master m_timeout m_ticks m_analogs m_binaries m_fragment FU (nI n) 0 m_requests m_acts (nI n) (nI s) (nI ss) m_sentNumber m_restarted m_lost x3 m_selectedSize m_selectedSequence m_selectedTime m_faults m_hasEvents m_hasBinaries m_hasAnalogs an1 m_eventCounts m_events m_frame m_relays m_request m_selected m_sent) = some (m_requests, m_acts, nI n, nI s, nI (sndl ss (s + 1)), sn', m_restarted, m_lost, @ite _ (m_hasEvents = 0) (Classical.propDecidable _) (-1) x3, m_selectedSize, m_selectedSequence, m_selectedTime, m_faults, m_hasEvents, m_hasBinaries, m_hasAnalogs, an', m_eventCounts, m_events, fr', m_relays, va_cpy m_fragment m_request 0 0 n, m_selected, se') := by
      intro an1
      by_cases hz : m_hasEvents = 0
      · rw [brc_t hz, if_pos hz]
        obtain ⟨a1, a2, a3, e⟩ := key an1 (-1)
        exact ⟨a1, an1, a2, a3, e⟩
      · rw [brc_f hz, if_neg hz]
        obtain ⟨a1, a2, a3, e⟩ := key an1 x3
        exact ⟨a1, an1, a2, a3, e⟩
    have hv3 : vp_in 3 260 := vp_in_nI (n := 3) (by decide) (by decide)
    by_cases hl : m_lost = 0
    · rw [brc_t hl, grd_t hv3]
      exact k2 _
    · rw [brc_f hl, grd_t hv3]
      exact k2 _
  have run : ∀ (an : Nat → Int32) (x5 : Int32), ∃ sn' an' fr' se', (fX10_ask_L269 m_address m_master m_timeout m_ticks m_analogs m_binaries m_fragment FU (nI n) x3 x5 1 m_requests m_acts m_requestSize (nI s) (nI ss) m_sentNumber m_restarted m_lost m_waits m_selectedSize m_selectedSequence m_selectedTime m_faults m_hasEvents m_hasBinaries m_hasAnalogs an m_eventCounts m_events m_frame m_relays m_request m_selected m_sent) = some (m_requests, m_acts, nI n, nI s, nI (sndl ss (s + 1)), sn', m_restarted, m_lost, @ite _ (m_hasEvents = 0) (Classical.propDecidable _) (-1) x3, m_selectedSize, m_selectedSequence, m_selectedTime, m_faults, m_hasEvents, m_hasBinaries, m_hasAnalogs, an', m_eventCounts, m_events, fr', m_relays, va_cpy m_fragment m_request 0 0 n, m_selected, se') := by
    intro an x5
    obtain ⟨y1, q1⟩ := m_left1 (m_address := m_address) (m_master := m_master) (m_timeout := m_timeout) (m_ticks := m_ticks) (m_analogs := m_analogs) (m_binaries := m_binaries) (m_fragment := m_fragment) (x1 := nI n) (x3 := x3) (m_requests := m_requests) (m_acts := m_acts) (m_requestSize := m_requestSize) (m_answerSize := nI s) (m_sentSize := nI ss) (m_sentNumber := m_sentNumber) (m_restarted := m_restarted) (m_lost := m_lost) (m_waits := m_waits) (m_selectedSize := m_selectedSize) (m_selectedSequence := m_selectedSequence) (m_selectedTime := m_selectedTime) (m_faults := m_faults) (m_hasEvents := m_hasEvents) (m_hasBinaries := m_hasBinaries) (m_hasAnalogs := m_hasAnalogs) (m_answer := an) (m_eventCounts := m_eventCounts) (m_events := m_events) (m_frame := m_frame) (m_relays := m_relays) (m_request := m_request) (m_selected := m_selected) (m_sent := m_sent) (k := fX10_ask_L269 m_address m_master m_timeout m_ticks m_analogs m_binaries m_fragment 4999) (c := 1) (by decide) h0 e1 x5
    obtain ⟨y2, q2⟩ := m_left1 (m_address := m_address) (m_master := m_master) (m_timeout := m_timeout) (m_ticks := m_ticks) (m_analogs := m_analogs) (m_binaries := m_binaries) (m_fragment := m_fragment) (x1 := nI n) (x3 := x3) (m_requests := m_requests) (m_acts := m_acts) (m_requestSize := m_requestSize) (m_answerSize := nI s) (m_sentSize := nI ss) (m_sentNumber := m_sentNumber) (m_restarted := m_restarted) (m_lost := m_lost) (m_waits := m_waits) (m_selectedSize := m_selectedSize) (m_selectedSequence := m_selectedSequence) (m_selectedTime := m_selectedTime) (m_faults := m_faults) (m_hasEvents := m_hasEvents) (m_hasBinaries := m_hasBinaries) (m_hasAnalogs := m_hasAnalogs) (m_answer := an) (m_eventCounts := m_eventCounts) (m_events := m_events) (m_frame := m_frame) (m_relays := m_relays) (m_request := m_request) (m_selected := m_selected) (m_sent := m_sent) (k := fX10_ask_L269 m_address m_master m_timeout m_ticks m_analogs m_binaries m_fragment 4998) (c := 2) (by decide) h1 e2 y1
    obtain ⟨y3, q3⟩ := m_left1 (m_address := m_address) (m_master := m_master) (m_timeout := m_timeout) (m_ticks := m_ticks) (m_analogs := m_analogs) (m_binaries := m_binaries) (m_fragment := m_fragment) (x1 := nI n) (x3 := x3) (m_requests := m_requests) (m_acts := m_acts) (m_requestSize := m_requestSize) (m_answerSize := nI s) (m_sentSize := nI ss) (m_sentNumber := m_sentNumber) (m_restarted := m_restarted) (m_lost := m_lost) (m_waits := m_waits) (m_selectedSize := m_selectedSize) (m_selectedSequence := m_selectedSequence) (m_selectedTime := m_selectedTime) (m_faults := m_faults) (m_hasEvents := m_hasEvents) (m_hasBinaries := m_hasBinaries) (m_hasAnalogs := m_hasAnalogs) (m_answer := an) (m_eventCounts := m_eventCounts) (m_events := m_events) (m_frame := m_frame) (m_relays := m_relays) (m_request := m_request) (m_selected := m_selected) (m_sent := m_sent) (k := fX10_ask_L269 m_address m_master m_timeout m_ticks m_analogs m_binaries m_fragment 4997) (c := 3) (by decide) h2 e3 y2
    obtain ⟨a1, a2, a3, a4, ef⟩ := fin an y3 4996
    refine ⟨a1, a2, a3, a4, ?_⟩
    rw [show FU = 4999 + 1 from rfl, fX10_ask_L269_s, brc_f (show ¬ (4 : Int32) ≤ 1 by decide)]
    refine Eq.trans q1 ?_
    show (fX10_ask_L269 m_address m_master m_timeout m_ticks m_analogs m_binaries m_fragment (4998 + 1) (nI n) x3 y1 (2 : Int32) m_requests m_acts m_requestSize (nI s) (nI ss) m_sentNumber m_restarted m_lost m_waits m_selectedSize m_selectedSequence m_selectedTime m_faults m_hasEvents m_hasBinaries m_hasAnalogs an m_eventCounts m_events m_frame m_relays m_request m_selected m_sent) = _
    rw [fX10_ask_L269_s, brc_f (show ¬ (4 : Int32) ≤ 2 by decide)]
    refine Eq.trans q2 ?_
    show (fX10_ask_L269 m_address m_master m_timeout m_ticks m_analogs m_binaries m_fragment (4997 + 1) (nI n) x3 y2 (3 : Int32) m_requests m_acts m_requestSize (nI s) (nI ss) m_sentNumber m_restarted m_lost m_waits m_selectedSize m_selectedSequence m_selectedTime m_faults m_hasEvents m_hasBinaries m_hasAnalogs an m_eventCounts m_events m_frame m_relays m_request m_selected m_sent) = _
    rw [fX10_ask_L269_s, brc_f (show ¬ (4 : Int32) ≤ 3 by decide)]
    refine Eq.trans q3 ?_
    exact ef
  unfold fX10_ask_L216 fX10_ask_L239 fX10_ask_L264
  have hv0 : vp_in 0 260 := vp_in_nI (n := 0) (by decide) (by decide)
  by_cases hz : m_hasEvents = 0
  · rw [brc_t hz, grd_t hv0]
    by_cases hr : m_restarted = 0
    · rw [brc_t hr]; exact run _ _
    · rw [brc_f hr]; exact run _ _
  · rw [brc_f hz, grd_t hv0]
    by_cases hr : m_restarted = 0
    · rw [brc_t hr]; exact run _ _
    · rw [brc_f hr]; exact run _ _
