/-! the events of a class in an answer, on both sides -/
theorem rEv_mark {c n k : Nat} {an ki nu va ev : Nat → Int32} (h : rEv c n an ki nu va ev) : rEv c n (upd an k 1) ki nu va (upd ev (160 * c + 4 * k + 3) 1) := by
  intro x hx
  obtain ⟨h1, h2, h3, h4, h5, h6⟩ := h x hx
  rw [pk_un (by omega), pk_un (by omega), pk_un (by omega)]
  by_cases e : x = k
  · subst e
    rw [pk_us, pk_us]
    exact ⟨h1, h2, h3, rfl, Or.inr rfl, h6⟩
  · rw [pk_un e, pk_un (by omega)]
    exact ⟨h1, h2, h3, h4, h5, h6⟩
theorem same_mark {c k : Nat} {ev : Nat → Int32} (hk : k < 40) : same c ev (upd ev (160 * c + 4 * k + 3) 1) := fun x hx => pk_un (by omega)
theorem r_putE_loop {N n c : Nat} {ki nu va ec : Nat → Int32} (hn : n ≤ N) (hN : N ≤ 40) (hc : c ≤ 3) (hec : ec c = nI n) : ∀ (i p p' k s u : Nat) (q x4 x2 we : Int32) (row an ans ev : Nat → Int32), k + i = n → s ≤ 249 → u ≤ k → isB we → rEv c n an ki nu va ev → ((q = -1 ∧ x4 = 0) ∨ (∃ h : Nat, x4 = nI h ∧ x2 = nI (h + 2) ∧ h + 4 ≤ s + 1)) →
    ok2 (fX0_putEvents_L10 N (nI n) ki nu va (p + i + 1) q (nI u) x4 (nI k) (nI (s + 1)) we row an) (fX10_putEvents_L7 ec (p' + i + 1) (nI c) x2 q (nI k) (nI s) we ans ev) (fun o o' => rLen s o.1 o'.1 ∧ o.2.1 = o'.2.1 ∧ isB o.2.1 ∧ rEv c n o.2.2.2 ki nu va o'.2.2.2 ∧ same c ev o'.2.2.2) := by
  intro i
  induction i with
  | zero =>
    intro p p' k s u q x4 x2 we row an ans ev hk hs hu hw hr hh
    have hk : k = n := hk
    subst hk
    rw [fX0_putEvents_L10_s, fX10_putEvents_L7_s]
    unfold fX2_size
    rw [bnd_t rfl, brc_t (show nI k ≤ nI k from nI_le (Nat.le_refl _) (by omega)), grd_t (show vp_in (nI c) 4 from vp_in_nI (by omega) (by decide)), ix_nI (by omega), hec, brc_t (show nI k ≤ nI k from nI_le (Nat.le_refl _) (by omega))]
    exact ok2_ss ⟨rLen_rf hs, rfl, hw, hr, same_rf⟩
  | succ i ih =>
    intro p p' k s u q x4 x2 we row an ans ev hk hs hu hw hr hh
    obtain ⟨hk1, hk2, hk3, hk4, hk5, hk6⟩ := hr k (by omega)
    have hvk : vp_in (nI k) N := vp_in_nI (by omega) (by omega)
    have hnk : ¬ nI n ≤ nI k := nI_ge (by omega) (by omega)
    have eK : fX2_kindAt N ki (nI k) = some (ki k) := by
      unfold fX2_kindAt
      rw [grd_t hvk, ix_nI (by omega)]
    have eN : fX2_numberAt N nu (nI k) = some (nu k) := by
      unfold fX2_numberAt
      rw [grd_t hvk, ix_nI (by omega)]
    have eV : fX2_valueAt N va (nI k) = some (va k) := by
      unfold fX2_valueAt
      rw [grd_t hvk, ix_nI (by omega)]
    have eA : fX2_isAnswered N an (nI k) = some (an k) := by
      unfold fX2_isAnswered
      rw [grd_t hvk, ix_nI (by omega), grd_t hk5]
    have eM : fX2_markAnswered N (nI k) an = some (upd an k 1) := by
      unfold fX2_markAnswered
      rw [grd_t hvk, ix_nI (by omega)]
    have hb4 : evB (ki k) ≤ 4 := by unfold evB; split <;> omega
    -- behind the head
    have tail : ∀ (s1 u1 h : Nat) (row1 ans1 : Nat → Int32), s ≤ s1 → s1 + evB (ki k) ≤ 249 → u1 ≤ k → h + 4 ≤ s1 + 1 →
        ok2 (fX0_putEvents_L118 N (nI n) ki nu va (fX0_putEvents_L10 N (nI n) ki nu va (p + i + 1)) (ki k) (nI u1) (nI h) (nI k) (nI (s1 + 1)) we row1 an) (fX10_putEvents_L151 ec (fX10_putEvents_L7 ec (p' + i + 1)) (nI c) (nI (h + 2)) (ki k) (nI k) (nI (160 * c + 4 * k)) (nI s1) we ans1 ev) (fun o o' => rLen s o.1 o'.1 ∧ o.2.1 = o'.2.1 ∧ isB o.2.1 ∧ rEv c n o.2.2.2 ki nu va o'.2.2.2 ∧ same c ev o'.2.2.2) := by
      intro s1 u1 h row1 ans1 hs1 hsb hu1 hh1
      have fin : ∀ (al bl : Int32) (row2 ans2 : Nat → Int32), al = nI (s1 + evB (ki k) + 1) → bl = nI (s1 + evB (ki k)) → ok2 (fX0_putEvents_L161 N (nI n) ki nu va (fX0_putEvents_L10 N (nI n) ki nu va (p + i + 1)) (ki k) (nI u1 + 1) (nI h) (nI k) al 1 row2 (upd an k 1)) (fX10_putEvents_L239 ec (fX10_putEvents_L7 ec (p' + i + 1)) (nI c) (nI (h + 2)) (ki k) (nI k) (nI (160 * c + 4 * k)) bl we ans2 ev) (fun o o' => rLen s o.1 o'.1 ∧ o.2.1 = o'.2.1 ∧ isB o.2.1 ∧ rEv c n o.2.2.2 ki nu va o'.2.2.2 ∧ same c ev o'.2.2.2) := by
        intro al bl row2 ans2 ha hb
        rw [ha, hb]
        unfold fX0_putEvents_L161 fX10_putEvents_L239 fX10_putEvents_L254
        rw [nI_1, nI_1, show (3 : Int32) = nI 3 from rfl, nI_add, ix_nI (by omega)]
        refine ok2_rg (vp_in_nI (by omega) (by decide)) ?_
        refine ok2_mono (ih p p' (k + 1) (s1 + evB (ki k)) (u1 + 1) (ki k) (nI h) (nI (h + 2)) 1 row2 (upd an k 1) ans2 (upd ev (160 * c + 4 * k + 3) 1) (by omega) hsb (by omega) (Or.inr rfl) (rEv_mark hr) (Or.inr ⟨h, rfl, rfl, by omega⟩)) (fun o o' ho => ?_)
        exact ⟨rLen_le ho.1 (by omega), ho.2.1, ho.2.2.1, ho.2.2.2.1, same_tr (same_mark (by omega)) ho.2.2.2.2⟩
      unfold fX0_putEvents_L118 fX10_putEvents_L151
      rw [show (4 : Int32) = nI 4 from rfl, nI_add, nI_m1 (by omega)]
      refine ok2_lg (vp_in_nI (by omega) (by decide)) (ok2_rg (vp_in_nI (by omega) (by decide)) (ok2_rg (vp_in_nI (by omega) (by decide)) ?_))
      rw [nI_1 (160 * c + 4 * k), show (2 : Int32) = nI 2 from rfl, nI_add]
      refine ok2_rg (vp_in_nI (by omega) (by decide)) ?_
      rw [bnd_t eN, bnd_t eV]
      refine ok2_lc (c_event (al := s1 + 1) (by omega)) (fun u4 h4 => ?_)
      rw [bnd_t eM]
      have h4 : u4.1 = nI (s1 + evB (ki k) + 1) := by rw [h4]; congr 1; omega
      refine ok2_rc (m_add0 (by omega)) (fun v4 g4 => ?_)
      rw [g4]
      by_cases hz : ki k = 0
      · have hB : evB (ki k) = 2 := by unfold evB; rw [if_pos hz]
        refine ok2_rb (fun _ => ?_) (fun q => absurd hz q)
        refine ok2_rg (vp_in_nI (by omega) (by decide)) ?_
        have k2 : ∀ y, ok2 (fX0_putEvents_L161 N (nI n) ki nu va (fX0_putEvents_L10 N (nI n) ki nu va (p + i + 1)) (ki k) (nI u1 + 1) (nI h) (nI k) u4.1 1 u4.2 (upd an k 1)) (fX10_putEvents_L199 ec (fX10_putEvents_L7 ec (p' + i + 1)) (nI c) (nI (h + 2)) (ki k) (nI k) (nI (160 * c + 4 * k)) y (nI (s1 + 1)) we v4.2 ev) (fun o o' => rLen s o.1 o'.1 ∧ o.2.1 = o'.2.1 ∧ isB o.2.1 ∧ rEv c n o.2.2.2 ki nu va o'.2.2.2 ∧ same c ev o'.2.2.2) := by
          intro y
          unfold fX10_putEvents_L199
          refine ok2_rc (m_add0 (by omega)) (fun v5 g5 => ?_)
          exact fin _ _ _ _ h4 (by rw [g5, hB])
        exact ok2_rb (fun _ => k2 _) (fun _ => k2 _)
      · have hB : evB (ki k) = 4 := by unfold evB; rw [if_neg hz]
        refine ok2_rb (fun q => absurd q hz) (fun _ => ?_)
        refine ok2_rc (m_add0 (by omega)) (fun v5 g5 => ok2_rg (vp_in_nI (by omega) (by decide)) ?_)
        rw [g5]
        refine ok2_rc (m_add0 (by omega)) (fun v7 g7 => ok2_rg (vp_in_nI (by omega) (by decide)) ?_)
        rw [g7]
        refine ok2_rc (m_add0 (by omega)) (fun v9 g9 => ?_)
        exact fin _ _ _ _ h4 (by rw [g9, hB])
    rw [show p + (i + 1) + 1 = (p + i + 1) + 1 by omega, show p' + (i + 1) + 1 = (p' + i + 1) + 1 by omega, fX0_putEvents_L10_s, fX10_putEvents_L7_s]
    unfold fX2_size
    rw [bnd_t rfl, brc_f hnk, bnd_t eA, grd_t (show vp_in (nI c) 4 from vp_in_nI (by omega) (by decide)), ix_nI (by omega), hec, brc_f hnk, bnd_t (m_place c k), show (3 : Int32) = nI 3 from rfl, nI_add, grd_t (show vp_in (nI (160 * c + 4 * k + 3)) 640 from vp_in_nI (by omega) (by decide)), ix_nI (by omega), ix_nI (by omega), ← hk4, ← hk1]
    by_cases h0 : an k = 0
    · rw [brc_t h0, brc_t h0, bnd_t eK, grd_t (show vp_in (nI (160 * c + 4 * k)) 640 from vp_in_nI (by omega) (by decide))]
      unfold fX0_putEvents_L48 fX0_putEvents_L53 fX0_putEvents_L69 fX10_putEvents_L54 fX10_putEvents_L71
      -- an event that stands under the head before it
      have old : ∀ (b : Nat) (y : Int32), ki k = q → b = evB (ki k) → y = nI b → ok2 (fX0_putEvents_L86 N (nI n) ki nu va (fX0_putEvents_L10 N (nI n) ki nu va (p + i + 1)) q (nI u) x4 (nI k) 0 y (nI (s + 1)) we row an) (fX10_putEvents_L88 ec (fX10_putEvents_L7 ec (p' + i + 1)) (nI c) x2 q (nI k) (nI (160 * c + 4 * k)) 1 y (nI s) we ans ev) (fun o o' => rLen s o.1 o'.1 ∧ o.2.1 = o'.2.1 ∧ isB o.2.1 ∧ rEv c n o.2.2.2 ki nu va o'.2.2.2 ∧ same c ev o'.2.2.2) := by
        intro b y hq hb hy
        unfold fX0_putEvents_L86 fX10_putEvents_L88
        rw [hy]
        by_cases hroom : s + b ≤ 249
        · rw [bnd_t (c_room_t (by omega)), bnd_t (m_room_t hroom), brc_f (by decide), brc_t rfl, brc_f (by decide), brc_f (by decide)]
          rcases hh with ⟨h1, _⟩ | ⟨h, rfl, rfl, h3⟩
          · exfalso
            rw [h1] at hq
            rcases hk6 with z | z
            · rw [z] at hq; exact absurd hq (by decide)
            · rw [z] at hq; exact absurd hq (by decide)
          · rw [← hq]
            exact tail s u h row ans (Nat.le_refl _) (by omega) hu h3
        · rw [bnd_t (c_room_f (by omega) (by omega)), bnd_t (m_room_f hroom (by omega)), brc_t rfl, brc_t rfl]
          exact ok2_ss ⟨rLen_rf hs, rfl, hw, hr, same_rf⟩
      -- an event with a head of its own
      have new : ∀ (b : Nat) (y y' : Int32), b = evB (ki k) → y = nI (4 + b) → y' = nI (4 + b) → ok2 (fX0_putEvents_L86 N (nI n) ki nu va (fX0_putEvents_L10 N (nI n) ki nu va (p + i + 1)) q (nI u) x4 (nI k) 1 y (nI (s + 1)) we row an) (fX10_putEvents_L88 ec (fX10_putEvents_L7 ec (p' + i + 1)) (nI c) x2 q (nI k) (nI (160 * c + 4 * k)) 0 y' (nI s) we ans ev) (fun o o' => rLen s o.1 o'.1 ∧ o.2.1 = o'.2.1 ∧ isB o.2.1 ∧ rEv c n o.2.2.2 ki nu va o'.2.2.2 ∧ same c ev o'.2.2.2) := by
        intro b y y' hb hy hy'
        unfold fX0_putEvents_L86 fX10_putEvents_L88
        rw [hy, hy']
        by_cases hroom : s + (4 + b) ≤ 249
        · rw [bnd_t (c_room_t (by omega)), bnd_t (m_room_t hroom), brc_f (by decide), brc_f (by decide), brc_f (by decide), brc_t rfl, bnd_t eK, grd_t (show vp_in (nI (160 * c + 4 * k)) 640 from vp_in_nI (by omega) (by decide)), ix_nI (by omega), ← hk1]
          refine ok2_lc (c_ehead (by omega)) (fun u3 h3 => ?_)
          rw [h3]
          unfold fX10_putEvents_L119 fX10_putEvents_L132
          have k2 : ∀ (z : Int32) (r : Nat → Int32), ok2 (fX0_putEvents_L118 N (nI n) ki nu va (fX0_putEvents_L10 N (nI n) ki nu va (p + i + 1)) (ki k) 0 (nI (s + 1)) (nI k) (nI (s + 1 + 4)) we u3.2 an) (bnd (fX10_add z (nI (s + 1)) r) (fun u1 => bnd (fX10_add 23 u1.1 u1.2) (fun u2 => bnd (fX10_add 0 u2.1 u2.2) (fun u3 => fX10_putEvents_L151 ec (fX10_putEvents_L7 ec (p' + i + 1)) (nI c) u2.1 (ki k) (nI k) (nI (160 * c + 4 * k)) u3.1 we u3.2 ev)))) (fun o o' => rLen s o.1 o'.1 ∧ o.2.1 = o'.2.1 ∧ isB o.2.1 ∧ rEv c n o.2.2.2 ki nu va o'.2.2.2 ∧ same c ev o'.2.2.2) := by
            intro z r
            refine ok2_rc (m_add0 (by omega)) (fun v1 g1 => ?_)
            rw [g1]
            refine ok2_rc (m_add0 (by omega)) (fun v2 g2 => ?_)
            rw [g2]
            refine ok2_rc (m_add0 (by omega)) (fun v3 g3 => ?_)
            rw [g3]
            exact tail (s + 4) 0 (s + 1) u3.2 v3.2 (by omega) (by omega) (by omega) (by omega)
          have k1 : ∀ (z : Int32), ok2 (fX0_putEvents_L118 N (nI n) ki nu va (fX0_putEvents_L10 N (nI n) ki nu va (p + i + 1)) (ki k) 0 (nI (s + 1)) (nI k) (nI (s + 1 + 4)) we u3.2 an) (bnd (fX10_add z (nI s) ans) (fun u1 => brc (ki k = 0) (bnd (fX10_add 1 u1.1 u1.2) (fun u1 => bnd (fX10_add 23 u1.1 u1.2) (fun u2 => bnd (fX10_add 0 u2.1 u2.2) (fun u3 => fX10_putEvents_L151 ec (fX10_putEvents_L7 ec (p' + i + 1)) (nI c) u2.1 (ki k) (nI k) (nI (160 * c + 4 * k)) u3.1 we u3.2 ev)))) (bnd (fX10_add 2 u1.1 u1.2) (fun u1 => bnd (fX10_add 23 u1.1 u1.2) (fun u2 => bnd (fX10_add 0 u2.1 u2.2) (fun u3 => fX10_putEvents_L151 ec (fX10_putEvents_L7 ec (p' + i + 1)) (nI c) u2.1 (ki k) (nI k) (nI (160 * c + 4 * k)) u3.1 we u3.2 ev)))))) (fun o o' => rLen s o.1 o'.1 ∧ o.2.1 = o'.2.1 ∧ isB o.2.1 ∧ rEv c n o.2.2.2 ki nu va o'.2.2.2 ∧ same c ev o'.2.2.2) := by
            intro z
            refine ok2_rc (m_add0 (by omega)) (fun v1 g1 => ?_)
            rw [g1]
            exact ok2_rb (fun _ => k2 _ _) (fun _ => k2 _ _)
          exact ok2_rb (fun _ => k1 _) (fun _ => k1 _)
        · rw [bnd_t (c_room_f (by omega) (by omega)), bnd_t (m_room_f hroom (by omega)), brc_t rfl, brc_t rfl]
          exact ok2_ss ⟨rLen_rf hs, rfl, hw, hr, same_rf⟩
      by_cases hq : ki k = q
      · rw [brc_t hq, brc_t hq, brc_f (show ¬ nI u = 255 from fun z => by have := (nI_eq (b := 255) (by omega) (by decide)).mp z; omega), bnd_t eK, grd_t (show vp_in (nI (160 * c + 4 * k)) 640 from vp_in_nI (by omega) (by decide)), ix_nI (by omega), ← hk1]
        by_cases hz : ki k = 0
        · rw [brc_t hz, brc_t hz, brc_t (show (0 : Int32) = 0 from rfl), brc_f (show ¬ (1 : Int32) = 0 by decide)]
          exact old 2 2 hq (by unfold evB; rw [if_pos hz]) rfl
        · rw [brc_f hz, brc_f hz, brc_t (show (0 : Int32) = 0 from rfl), brc_f (show ¬ (1 : Int32) = 0 by decide)]
          exact old 4 4 hq (by unfold evB; rw [if_neg hz]) rfl
      · rw [brc_f hq, brc_f hq, bnd_t eK, grd_t (show vp_in (nI (160 * c + 4 * k)) 640 from vp_in_nI (by omega) (by decide)), ix_nI (by omega), ← hk1]
        by_cases hz : ki k = 0
        · rw [brc_t hz, brc_t hz, brc_f (show ¬ (1 : Int32) = 0 by decide), brc_t (show (0 : Int32) = 0 from rfl)]
          exact new 2 _ _ (by unfold evB; rw [if_pos hz]) rfl rfl
        · rw [brc_f hz, brc_f hz, brc_f (show ¬ (1 : Int32) = 0 by decide), brc_t (show (0 : Int32) = 0 from rfl)]
          exact new 4 _ _ (by unfold evB; rw [if_neg hz]) rfl rfl
    · rw [brc_f h0, brc_f h0]
      unfold fX0_putEvents_L161 fX10_putEvents_L254
      rw [nI_1]
      exact ih p p' (k + 1) s u q x4 x2 we row an ans ev (by omega) hs (by omega) hw hr hh
theorem r_putE {N n c s : Nat} {we : Int32} {row an ki nu va ec ans ev : Nat → Int32} (hn : n ≤ N) (hN : N ≤ 40) (hc : c ≤ 3) (hec : ec c = nI n) (hs : s ≤ 249) (hw : isB we) (hr : rEv c n an ki nu va ev) : ok2 (fX0_putEvents N (nI n) ki nu va (nI (s + 1)) we row an) (fX10_putEvents ec (nI c) (nI s) we ans ev) (fun o o' => rLen s o.1 o'.1 ∧ o.2.1 = o'.2.1 ∧ isB o.2.1 ∧ rEv c n o.2.2.2 ki nu va o'.2.2.2 ∧ same c ev o'.2.2.2) := by
  unfold fX0_putEvents fX10_putEvents
  have e := r_putE_loop (ki := ki) (nu := nu) (va := va) hn hN hc hec n (4999 - n) (4999 - n) 0 s 0 (-1) 0 (-1) we row an ans ev (by omega) hs (Nat.le_refl _) hw hr (Or.inl ⟨rfl, rfl⟩)
  rw [show 4999 - n + n + 1 = FU by unfold FU; omega] at e
  exact e
