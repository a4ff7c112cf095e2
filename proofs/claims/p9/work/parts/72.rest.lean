/-! events and counts -/
theorem ev_row {N c n : Nat} {x2 x3 th : Int32} {an ki nu va ec ev : Nat → Int32} (hn : n ≤ N) (hN : N ≤ 40) (h1 : 1 ≤ c) (hc : c ≤ 3) (he : ec c = nI n) (hr : rEv c n an ki nu va ev) :
    (brc (x2 < 0) (some (.inl 1 : Nat ⊕ Int32)) (bnd (fX2_size (nI n)) (fun u2 => brc (x2 < u2) (brc (x3 = 0) (bnd (fX2_kindAt N ki x2) (fun u3 => some (.inr (u3)))) (brc (x3 = 1) (bnd (fX2_numberAt N nu x2) (fun u4 => some (.inr (u4)))) (brc (x3 = 2) (bnd (fX2_valueAt N va x2) (fun u5 => some (.inr (u5)))) (some (.inl 1))))) (some (.inl 1)))) = some (.inl 1) ∧ fX10_event ec ev (nI c) x2 x3 th = some (0, 1)) ∨
    (∃ v, brc (x2 < 0) (some (.inl 1 : Nat ⊕ Int32)) (bnd (fX2_size (nI n)) (fun u2 => brc (x2 < u2) (brc (x3 = 0) (bnd (fX2_kindAt N ki x2) (fun u3 => some (.inr (u3)))) (brc (x3 = 1) (bnd (fX2_numberAt N nu x2) (fun u4 => some (.inr (u4)))) (brc (x3 = 2) (bnd (fX2_valueAt N va x2) (fun u5 => some (.inr (u5)))) (some (.inl 1))))) (some (.inl 1)))) = some (.inr v) ∧ fX10_event ec ev (nI c) x2 x3 th = some (v, 0)) := by
  unfold fX10_event fX10_event_L20 fX10_event_L38 fX10_event_L43 fX10_event_L69 fX2_size
  rw [bnd_t rfl, brc_f (show ¬ nI c < 1 from nI_nlt (b := 1) h1 (by omega)), brc_f (show ¬ 3 < nI c from nI_nlt (a := 3) hc (by decide)), ix_nI (by omega), he, grd_t (show vp_in (nI c) 4 from vp_in_nI (by omega) (by decide)), brc_f (show ¬ (1 : Int32) ≤ 0 by decide), brc_t (show (0 : Int32) ≤ 0 by decide)]
  by_cases hx : x2 < 0
  · left
    rw [brc_t hx, brc_t hx]
    refine ⟨rfl, ?_⟩
    by_cases h0 : x3 < 0
    · rw [brc_t h0]
    · rw [brc_f h0]
      by_cases h2 : x3 ≤ 2
      · rw [brc_t h2]
      · rw [brc_f h2]
  · rw [brc_f hx, brc_f hx]
    by_cases hl : x2 < nI n
    · rw [brc_t hl, brc_t hl]
      have hi : 0 ≤ x2.toInt ∧ x2.toInt < n := by
        rw [z_lt] at hx hl
        rw [z_nI (by omega)] at hl
        simp only [Int32.reduceToInt] at hx
        omega
      obtain ⟨q, hq⟩ : ∃ q : Nat, q = ix x2 := ⟨_, rfl⟩
      have hq1 : x2 = nI q := by rw [hq]; exact z_of hi.1
      have hqn : q < n := by rw [hq, z_ix]; omega
      subst hq1
      obtain ⟨c1, c2, c3, c4, c5, c6⟩ := hr q hqn
      have hv : vp_in (nI q) N := vp_in_nI (by omega) (by omega)
      unfold fX2_kindAt fX2_numberAt fX2_valueAt
      rw [bnd_t (m_place c q), grd_t hv, grd_t hv, grd_t hv, ix_nI (by omega), bnd_t rfl, bnd_t rfl, bnd_t rfl]
      by_cases e0 : x3 = 0
      · right
        subst e0
        refine ⟨ki q, ?_, ?_⟩
        · rw [brc_t rfl]
        · rw [brc_f (by decide), brc_t (by decide), show nI (160 * c + 4 * q) + (0 : Int32) = nI (160 * c + 4 * q) from by rw [show (0 : Int32) = nI 0 from rfl, nI_add, Nat.add_zero], grd_t (show vp_in (nI (160 * c + 4 * q)) 640 from vp_in_nI (by omega) (by decide)), ix_nI (by omega), ← c1]
      · by_cases e1 : x3 = 1
        · right
          subst e1
          refine ⟨nu q, ?_, ?_⟩
          · rw [brc_f (by decide), brc_t rfl]
          · rw [brc_f (by decide), brc_t (by decide), nI_1, grd_t (show vp_in (nI (160 * c + 4 * q + 1)) 640 from vp_in_nI (by omega) (by decide)), ix_nI (by omega), ← c2]
        · by_cases e2 : x3 = 2
          · right
            subst e2
            refine ⟨va q, ?_, ?_⟩
            · rw [brc_f (by decide), brc_f (by decide), brc_t rfl]
            · rw [brc_f (by decide), brc_t (by decide), show (2 : Int32) = nI 2 from rfl, nI_add, grd_t (show vp_in (nI (160 * c + 4 * q + 2)) 640 from vp_in_nI (by omega) (by decide)), ix_nI (by omega), ← c3]
          · left
            rw [brc_f e0, brc_f e1, brc_f e2]
            refine ⟨rfl, ?_⟩
            by_cases h0 : x3 < 0
            · rw [brc_t h0]
            · have h2 : ¬ x3 ≤ 2 := by
                rw [z_lt] at h0
                rw [z_le]
                rw [z_eq] at e0 e1 e2
                simp only [Int32.reduceToInt] at h0 e0 e1 e2 ⊢
                omega
              rw [brc_f h0, brc_f h2]
    · left
      rw [brc_f hl, brc_f hl]
      refine ⟨rfl, ?_⟩
      by_cases h0 : x3 < 0
      · rw [brc_t h0]
      · rw [brc_f h0]
        by_cases h2 : x3 ≤ 2
        · rw [brc_t h2]
        · rw [brc_f h2]
theorem e_event {N : Nat} {x1 x2 x3 th : Int32} {out : Nat → Int64} {r0l : Int32} {r0a r0k r0u r0v : Nat → Int32} {r1l : Int32} {r1a r1k r1u r1v : Nat → Int32} {r2l : Int32} {r2a r2k r2u r2v : Nat → Int32} {ec ev : Nat → Int32} (hN : N ≤ 40) (hr : rEvs N r0l r0a r0k r0u r0v r1l r1a r1k r1u r1v r2l r2a r2k r2u r2v ec ev) : ∃ k out' b, fL_event N N N 1 r0l r0k r0u r0v r1l r1k r1u r1v r2l r2k r2u r2v x1 x2 x3 out = some (k, out') ∧ fX10_event ec ev x1 x2 x3 th = some (b, k) ∧ (k = 0 → out' 0 = b.toInt64) := by
  obtain ⟨n0, n1, n2, h0, h1, h2, rfl, rfl, rfl, e1, e2, e3, r0, r1, r2⟩ := hr
  unfold fL_event
  have bad : ∀ (q : Option (Nat ⊕ Int32)) (w : Option (Int32 × Int32)), q = some (.inl 1) → w = some (0, 1) → ∃ k out' b, bnd q (fun o1 => cas o1 (fun kx => grd (kx = 1) (some ((1 : Int32), out))) (fun u1 => grd (vp_in 0 1) (some ((0 : Int32), vp_updL out (ix 0) (u1.toInt64))))) = some (k, out') ∧ w = some (b, k) ∧ (k = 0 → out' 0 = b.toInt64) := by
    intro q w hq hw
    exact ⟨1, out, 0, hv_l hq, hw, fun h => absurd h (by decide)⟩
  have good : ∀ (q : Option (Nat ⊕ Int32)) (w : Option (Int32 × Int32)) (v : Int32), q = some (.inr v) → w = some (v, 0) → ∃ k out' b, bnd q (fun o1 => cas o1 (fun kx => grd (kx = 1) (some ((1 : Int32), out))) (fun u1 => grd (vp_in 0 1) (some ((0 : Int32), vp_updL out (ix 0) (u1.toInt64))))) = some (k, out') ∧ w = some (b, k) ∧ (k = 0 → out' 0 = b.toInt64) := by
    intro q w v hq hw
    exact ⟨0, _, v, hv_r hq, hw, fun _ => updL0⟩
  by_cases g1 : x1 < 1
  · refine bad _ _ ?_ ?_
    · unfold fX9_event fX9_event_L10
      rw [brc_t g1]
    · unfold fX10_event fX10_event_L20 fX10_event_L43 fX10_event_L69
      rw [brc_t g1, brc_f (by decide)]
  · by_cases g3 : x1 ≤ 3
    · have hx : x1 = nI 1 ∨ x1 = nI 2 ∨ x1 = nI 3 := by
        rw [z_lt] at g1
        rw [z_le] at g3
        rw [z_eq, z_eq, z_eq, z_nI (by decide), z_nI (by decide), z_nI (by decide)]
        simp only [Int32.reduceToInt] at g1 g3
        omega
      rcases hx with rfl | rfl | rfl
      · have eo : fX3_ofClass (nI 1) = some 0 := by
          unfold fX3_ofClass
          rw [nI_m1 (by decide), ix_nI (by decide), grd_t (vp_in_nI (by decide) (by decide)), brc_t rfl]
        unfold fX9_event fX9_event_L10 fX9_event_L43
        rw [brc_f g1, brc_t g3, bnd_t eo, brc_t rfl]
        rcases ev_row (th := th) (x2 := x2) (x3 := x3) h0 hN (by decide) (by decide) e1 r0 with ⟨a, b⟩ | ⟨v, a, b⟩
        · exact bad _ _ a b
        · exact good _ _ v a b
      · have eo : fX3_ofClass (nI 2) = some 1 := by
          unfold fX3_ofClass
          rw [nI_m1 (by decide), ix_nI (by decide), grd_t (vp_in_nI (by decide) (by decide)), brc_f (by decide), brc_t rfl]
        unfold fX9_event fX9_event_L10 fX9_event_L43
        rw [brc_f g1, brc_t g3, bnd_t eo, brc_f (by decide), brc_t rfl]
        rcases ev_row (th := th) (x2 := x2) (x3 := x3) h1 hN (by decide) (by decide) e2 r1 with ⟨a, b⟩ | ⟨v, a, b⟩
        · exact bad _ _ a b
        · exact good _ _ v a b
      · have eo : fX3_ofClass (nI 3) = some 2 := by
          unfold fX3_ofClass
          rw [nI_m1 (by decide), ix_nI (by decide), grd_t (vp_in_nI (by decide) (by decide)), brc_f (by decide), brc_f (by decide)]
        unfold fX9_event fX9_event_L10 fX9_event_L43
        rw [brc_f g1, brc_t g3, bnd_t eo, brc_f (by decide), brc_f (by decide)]
        rcases ev_row (th := th) (x2 := x2) (x3 := x3) h2 hN (by decide) (by decide) e3 r2 with ⟨a, b⟩ | ⟨v, a, b⟩
        · exact bad _ _ a b
        · exact good _ _ v a b
    · refine bad _ _ ?_ ?_
      · unfold fX9_event fX9_event_L10
        rw [brc_f g1, brc_f g3]
      · unfold fX10_event fX10_event_L20 fX10_event_L43 fX10_event_L69
        have g3' : 3 < x1 := by rw [z_le] at g3; rw [z_lt]; omega
        rw [brc_f g1, brc_t g3', brc_f (by decide)]
theorem e_count {x th rq tk rs lo l0 l1 l2 il ol ac : Int32} {fr ec : Nat → Int32} {out : Nat → Int64} (e1 : ec 1 = l0) (e2 : ec 2 = l1) (e3 : ec 3 = l2) (hb : isB rs) (hl : isB lo) : ∃ k out' b, fL_count 1 rq tk rs lo l0 l1 l2 fr il ol ac x out = some (k, out') ∧ fX10_count il (fr 3) (fr 1) (fr 2) rq ac tk ol rs lo ec x th = some (b, k) ∧ (k = 0 → out' 0 = b.toInt64) := by
  unfold fL_count
  have good : ∀ (q : Option (Nat ⊕ Int32)) (w : Option (Int32 × Int32)) (v : Int32), q = some (.inr v) → w = some (v, 0) → ∃ k out' b, bnd q (fun o1 => cas o1 (fun kx => grd (kx = 1) (some ((1 : Int32), out))) (fun u1 => grd (vp_in 0 1) (some ((0 : Int32), vp_updL out (ix 0) (u1.toInt64))))) = some (k, out') ∧ w = some (b, k) ∧ (k = 0 → out' 0 = b.toInt64) := by
    intro q w v hq hw
    exact ⟨0, _, v, hv_r hq, hw, fun _ => updL0⟩
  by_cases c0 : x = 0
  · subst c0
    refine good _ _ (ol) ?_ ?_
    · unfold fX9_count
      rw [brc_t rfl]
      rfl
    · unfold fX10_count fX10_count_L16
      rw [brc_f (by decide), brc_t (by decide), brc_t rfl]
  by_cases c1 : x = 1
  · subst c1
    refine good _ _ (fr 3) ?_ ?_
    · unfold fX9_count
      rw [brc_f (by decide), brc_t rfl, ix3]
    · unfold fX10_count fX10_count_L16
      rw [brc_f (by decide), brc_t (by decide), brc_f (by decide), brc_t rfl]
  by_cases c2 : x = 2
  · subst c2
    refine good _ _ (fr 1) ?_ ?_
    · unfold fX9_count
      rw [brc_f (by decide), brc_f (by decide), brc_t rfl, ix1]
    · unfold fX10_count fX10_count_L16
      rw [brc_f (by decide), brc_t (by decide), brc_f (by decide), brc_f (by decide), brc_t rfl]
  by_cases c3 : x = 3
  · subst c3
    refine good _ _ (fr 2) ?_ ?_
    · unfold fX9_count
      rw [brc_f (by decide), brc_f (by decide), brc_f (by decide), brc_t rfl, ix2]
    · unfold fX10_count fX10_count_L16
      rw [brc_f (by decide), brc_t (by decide), brc_f (by decide), brc_f (by decide), brc_f (by decide), brc_t rfl]
  by_cases c4 : x = 4
  · subst c4
    refine good _ _ (rq) ?_ ?_
    · unfold fX9_count
      rw [brc_f (by decide), brc_f (by decide), brc_f (by decide), brc_f (by decide), brc_t rfl]
    · unfold fX10_count fX10_count_L16
      rw [brc_f (by decide), brc_t (by decide), brc_f (by decide), brc_f (by decide), brc_f (by decide), brc_f (by decide), brc_t rfl]
  by_cases c5 : x = 5
  · subst c5
    refine good _ _ (ac) ?_ ?_
    · unfold fX9_count
      rw [brc_f (by decide), brc_f (by decide), brc_f (by decide), brc_f (by decide), brc_f (by decide), brc_t rfl]
      rfl
    · unfold fX10_count fX10_count_L16
      rw [brc_f (by decide), brc_t (by decide), brc_f (by decide), brc_f (by decide), brc_f (by decide), brc_f (by decide), brc_f (by decide), brc_t rfl]
  by_cases c6 : x = 6
  · subst c6
    refine good _ _ (il) ?_ ?_
    · unfold fX9_count
      rw [brc_f (by decide), brc_f (by decide), brc_f (by decide), brc_f (by decide), brc_f (by decide), brc_f (by decide), brc_t rfl]
      rfl
    · unfold fX10_count fX10_count_L16
      rw [brc_f (by decide), brc_t (by decide), brc_f (by decide), brc_f (by decide), brc_f (by decide), brc_f (by decide), brc_f (by decide), brc_f (by decide), brc_t rfl]
  by_cases c7 : x = 7
  · subst c7
    refine good _ _ (l0) ?_ ?_
    · unfold fX9_count
      have eo : fX3_ofClass ((7 : Int32) - 6) = some 0 := by
        unfold fX3_ofClass
        rw [show (((7 : Int32) - 6) - 1) = nI 0 from rfl, ix_nI (by decide), grd_t (vp_in_nI (by decide) (by decide)), brc_t rfl]
      rw [brc_f (by decide), brc_f (by decide), brc_f (by decide), brc_f (by decide), brc_f (by decide), brc_f (by decide), brc_f (by decide), brc_t rfl, bnd_t eo, brc_t rfl]
      rfl
    · unfold fX10_count fX10_count_L16
      rw [brc_f (by decide), brc_t (by decide), brc_f (by decide), brc_f (by decide), brc_f (by decide), brc_f (by decide), brc_f (by decide), brc_f (by decide), brc_f (by decide), brc_t rfl, show ((7 : Int32) - 6) = nI 1 from rfl, ix_nI (by decide), grd_t (vp_in_nI (by decide) (by decide)), e1]
  by_cases c8 : x = 8
  · subst c8
    refine good _ _ (l1) ?_ ?_
    · unfold fX9_count
      have eo : fX3_ofClass ((8 : Int32) - 6) = some 1 := by
        unfold fX3_ofClass
        rw [show (((8 : Int32) - 6) - 1) = nI 1 from rfl, ix_nI (by decide), grd_t (vp_in_nI (by decide) (by decide)), brc_f (by decide), brc_t rfl]
      rw [brc_f (by decide), brc_f (by decide), brc_f (by decide), brc_f (by decide), brc_f (by decide), brc_f (by decide), brc_f (by decide), brc_f (by decide), brc_t rfl, bnd_t eo, brc_f (by decide), brc_t rfl]
      rfl
    · unfold fX10_count fX10_count_L16
      rw [brc_f (by decide), brc_t (by decide), brc_f (by decide), brc_f (by decide), brc_f (by decide), brc_f (by decide), brc_f (by decide), brc_f (by decide), brc_f (by decide), brc_f (by decide), brc_t rfl, show ((8 : Int32) - 6) = nI 2 from rfl, ix_nI (by decide), grd_t (vp_in_nI (by decide) (by decide)), e2]
  by_cases c9 : x = 9
  · subst c9
    refine good _ _ (l2) ?_ ?_
    · unfold fX9_count
      have eo : fX3_ofClass ((9 : Int32) - 6) = some 2 := by
        unfold fX3_ofClass
        rw [show (((9 : Int32) - 6) - 1) = nI 2 from rfl, ix_nI (by decide), grd_t (vp_in_nI (by decide) (by decide)), brc_f (by decide), brc_f (by decide)]
      rw [brc_f (by decide), brc_f (by decide), brc_f (by decide), brc_f (by decide), brc_f (by decide), brc_f (by decide), brc_f (by decide), brc_f (by decide), brc_f (by decide), brc_t rfl, bnd_t eo, brc_f (by decide), brc_f (by decide)]
      rfl
    · unfold fX10_count fX10_count_L16
      rw [brc_f (by decide), brc_t (by decide), brc_f (by decide), brc_f (by decide), brc_f (by decide), brc_f (by decide), brc_f (by decide), brc_f (by decide), brc_f (by decide), brc_f (by decide), brc_f (by decide), brc_t rfl, show ((9 : Int32) - 6) = nI 3 from rfl, ix_nI (by decide), grd_t (vp_in_nI (by decide) (by decide)), e3]
  by_cases c10 : x = 10
  · subst c10
    refine good _ _ (rs) ?_ ?_
    · unfold fX9_count
      unfold fX9_count_L145
      rw [brc_f (by decide), brc_f (by decide), brc_f (by decide), brc_f (by decide), brc_f (by decide), brc_f (by decide), brc_f (by decide), brc_f (by decide), brc_f (by decide), brc_f (by decide), brc_t rfl]
      rcases hb with rfl | rfl
      · rw [brc_t rfl]
      · rw [brc_f (by decide)]
    · unfold fX10_count fX10_count_L16
      unfold fX10_count_L145
      rw [brc_f (by decide), brc_t (by decide), brc_f (by decide), brc_f (by decide), brc_f (by decide), brc_f (by decide), brc_f (by decide), brc_f (by decide), brc_f (by decide), brc_f (by decide), brc_f (by decide), brc_f (by decide), brc_t rfl]
      rcases hb with rfl | rfl
      · rw [brc_t rfl]
      · rw [brc_f (by decide)]
  by_cases c11 : x = 11
  · subst c11
    refine good _ _ (lo) ?_ ?_
    · unfold fX9_count
      unfold fX9_count_L161 fX3_areLost
      rw [brc_f (by decide), brc_f (by decide), brc_f (by decide), brc_f (by decide), brc_f (by decide), brc_f (by decide), brc_f (by decide), brc_f (by decide), brc_f (by decide), brc_f (by decide), brc_f (by decide), brc_t rfl, grd_t hl, bnd_t rfl]
      rcases hl with rfl | rfl
      · rw [brc_t rfl]
      · rw [brc_f (by decide)]
    · unfold fX10_count fX10_count_L16
      unfold fX10_count_L158
      rw [brc_f (by decide), brc_t (by decide), brc_f (by decide), brc_f (by decide), brc_f (by decide), brc_f (by decide), brc_f (by decide), brc_f (by decide), brc_f (by decide), brc_f (by decide), brc_f (by decide), brc_f (by decide), brc_f (by decide), brc_t rfl]
      rcases hl with rfl | rfl
      · rw [brc_t rfl]
      · rw [brc_f (by decide)]
  by_cases c12 : x = 12
  · subst c12
    refine good _ _ (tk) ?_ ?_
    · unfold fX9_count
      rw [brc_f (by decide), brc_f (by decide), brc_f (by decide), brc_f (by decide), brc_f (by decide), brc_f (by decide), brc_f (by decide), brc_f (by decide), brc_f (by decide), brc_f (by decide), brc_f (by decide), brc_f (by decide), brc_t rfl]
    · unfold fX10_count fX10_count_L16
      rw [brc_f (by decide), brc_t (by decide), brc_f (by decide), brc_f (by decide), brc_f (by decide), brc_f (by decide), brc_f (by decide), brc_f (by decide), brc_f (by decide), brc_f (by decide), brc_f (by decide), brc_f (by decide), brc_f (by decide), brc_f (by decide), brc_t rfl]
  refine ⟨1, out, 0, hv_l ?_, ?_, fun h => absurd h (by decide)⟩
  · unfold fX9_count
    rw [brc_f c0, brc_f c1, brc_f c2, brc_f c3, brc_f c4, brc_f c5, brc_f c6, brc_f c7, brc_f c8, brc_f c9, brc_f c10, brc_f c11, brc_f c12]
  · unfold fX10_count fX10_count_L11 fX10_count_L16
    by_cases hx : x < 0
    · rw [brc_t hx, brc_f c0, brc_f c1, brc_f c2, brc_f c3, brc_f c4, brc_f c5, brc_f c6, brc_f c7, brc_f c8, brc_f c9, brc_f c10, brc_f c11, brc_f c12]
    · have h12 : ¬ x ≤ 12 := by
        intro q
        rw [z_lt] at hx
        rw [z_le] at q
        rw [z_eq] at c0 c1 c2 c3 c4 c5 c6 c7 c8 c9 c10 c11 c12
        simp only [Int32.reduceToInt] at hx q c0 c1 c2 c3 c4 c5 c6 c7 c8 c9 c10 c11 c12
        omega
      rw [brc_f hx, brc_f h12, brc_f c0, brc_f c1, brc_f c2, brc_f c3, brc_f c4, brc_f c5, brc_f c6, brc_f c7, brc_f c8, brc_f c9, brc_f c10, brc_f c11, brc_f c12]
/-! feed, whole -/
theorem e_feed {N : Nat} {c_ticks : Int32} {c_incoming_address : Int32} {c_incoming_master : Int32} {c_outgoing_address : Int32} {c_outgoing_master : Int32} {c_points_on : Nat → Int32} {c_points_values : Nat → Int32} {c_relays_timeout : Int32} {m_address : Int32} {m_master : Int32} {m_timeout : Int32} {m_ticks : Int32} {m_analogs : Nat → Int32} {m_binaries : Nat → Int32} {c_requests : Int32} {c_restarted : Int32} {c_answer_length : Int32} {c_answer_requestLength : Int32} {c_answer_faults : Int32} {c_answer_withBinaries : Int32} {c_answer_withAnalogs : Int32} {c_answer_withEvents : Int32} {c_answer_request : Nat → Int32} {c_answer_row : Nat → Int32} {c_assembly_length : Int32} {c_assembly_open : Int32} {c_assembly_number : Int32} {c_assembly_fragment : Nat → Int32} {c_events_lost : Int32} {c_events_awaited : Int32} {c_events_rows_0_length : Int32} {c_events_rows_0_answered : Nat → Int32} {c_events_rows_0_kinds : Nat → Int32} {c_events_rows_0_numbers : Nat → Int32} {c_events_rows_0_values : Nat → Int32} {c_events_rows_1_length : Int32} {c_events_rows_1_answered : Nat → Int32} {c_events_rows_1_kinds : Nat → Int32} {c_events_rows_1_numbers : Nat → Int32} {c_events_rows_1_values : Nat → Int32} {c_events_rows_2_length : Int32} {c_events_rows_2_answered : Nat → Int32} {c_events_rows_2_kinds : Nat → Int32} {c_events_rows_2_numbers : Nat → Int32} {c_events_rows_2_values : Nat → Int32} {c_frames : Nat → Int32} {c_incoming_length : Int32} {c_incoming_dataLength : Int32} {c_incoming_control : Int32} {c_incoming_data : Nat → Int32} {c_incoming_row : Nat → Int32} {c_link_wasReset : Int32} {c_link_nextCount : Int32} {c_link_taking : Int32} {c_outgoing_length : Int32} {c_outgoing_nextNumber : Int32} {c_outgoing_row : Nat → Int32} {c_relays_acted : Int32} {c_relays_selectedLength : Int32} {c_relays_selectedTick : Int32} {c_relays_codes : Nat → Int32} {c_relays_selected : Nat → Int32} {m_thrown : Int32} {m_rowSize : Int32} {m_good : Int32} {m_bad : Int32} {m_foreign : Int32} {m_requests : Int32} {m_acts : Int32} {m_wasReset : Int32} {m_nextCount : Int32} {m_dataSize : Int32} {m_fragmentSize : Int32} {m_segment : Int32} {m_requestSize : Int32} {m_answerSize : Int32} {m_sentSize : Int32} {m_sentNumber : Int32} {m_restarted : Int32} {m_lost : Int32} {m_waits : Int32} {m_selectedSize : Int32} {m_selectedSequence : Int32} {m_selectedTime : Int32} {m_faults : Int32} {m_hasEvents : Int32} {m_hasBinaries : Int32} {m_hasAnalogs : Int32} {m_answer : Nat → Int32} {m_data : Nat → Int32} {m_eventCounts : Nat → Int32} {m_events : Nat → Int32} {m_fragment : Nat → Int32} {m_frame : Nat → Int32} {m_relays : Nat → Int32} {m_request : Nat → Int32} {m_row : Nat → Int32} {m_selected : Nat → Int32} {m_sent : Nat → Int32} {x1 x2 x3 x4 x5 x6 : Int32} {out : Nat → Int64} (hN : N ≤ 40) (hon : bol c_points_on) (had : m_address = c_incoming_address) (hma : m_master = c_incoming_master) (htk : m_ticks = c_ticks) (htm : m_timeout = c_relays_timeout) (hr : rAll N c_requests c_restarted c_answer_length c_answer_requestLength c_answer_faults c_answer_withBinaries c_answer_withAnalogs c_answer_withEvents c_answer_request c_answer_row c_assembly_length c_assembly_open c_assembly_number c_assembly_fragment c_events_lost c_events_awaited c_events_rows_0_length c_events_rows_0_answered c_events_rows_0_kinds c_events_rows_0_numbers c_events_rows_0_values c_events_rows_1_length c_events_rows_1_answered c_events_rows_1_kinds c_events_rows_1_numbers c_events_rows_1_values c_events_rows_2_length c_events_rows_2_answered c_events_rows_2_kinds c_events_rows_2_numbers c_events_rows_2_values c_frames c_incoming_length c_incoming_dataLength c_incoming_control c_incoming_data c_incoming_row c_link_wasReset c_link_nextCount c_link_taking c_outgoing_length c_outgoing_nextNumber c_outgoing_row c_relays_acted c_relays_selectedLength c_relays_selectedTick c_relays_codes c_relays_selected m_rowSize m_good m_bad m_foreign m_requests m_acts m_wasReset m_nextCount m_dataSize m_fragmentSize m_segment m_requestSize m_answerSize m_sentSize m_sentNumber m_restarted m_lost m_waits m_selectedSize m_selectedSequence m_selectedTime m_faults m_hasEvents m_hasBinaries m_hasAnalogs m_answer m_data m_eventCounts m_events m_fragment m_frame m_relays m_request m_row m_selected m_sent) :
    ok2 (fL_feed N N N 1 c_ticks c_incoming_address c_incoming_master c_outgoing_address c_outgoing_master c_points_on c_points_values c_relays_timeout x1 x2 x3 x4 x5 x6 c_requests c_restarted c_answer_length c_answer_requestLength c_answer_faults c_answer_withBinaries c_answer_withAnalogs c_answer_withEvents c_answer_request c_answer_row c_assembly_length c_assembly_open c_assembly_number c_assembly_fragment c_events_lost c_events_awaited c_events_rows_0_length c_events_rows_0_answered c_events_rows_0_kinds c_events_rows_0_numbers c_events_rows_0_values c_events_rows_1_length c_events_rows_1_answered c_events_rows_1_kinds c_events_rows_1_numbers c_events_rows_1_values c_events_rows_2_length c_events_rows_2_answered c_events_rows_2_kinds c_events_rows_2_numbers c_events_rows_2_values c_frames c_incoming_length c_incoming_dataLength c_incoming_control c_incoming_data c_incoming_row c_link_wasReset c_link_nextCount c_link_taking c_outgoing_length c_outgoing_nextNumber c_outgoing_row c_relays_acted c_relays_selectedLength c_relays_selectedTick c_relays_codes c_relays_selected out) (fX10_feed m_address m_master m_timeout m_ticks m_analogs m_binaries x1 x2 x3 x4 x5 x6 m_thrown m_rowSize m_good m_bad m_foreign m_requests m_acts m_wasReset m_nextCount m_dataSize m_fragmentSize m_segment m_requestSize m_answerSize m_sentSize m_sentNumber m_restarted m_lost m_waits m_selectedSize m_selectedSequence m_selectedTime m_faults m_hasEvents m_hasBinaries m_hasAnalogs m_answer m_data m_eventCounts m_events m_fragment m_frame m_relays m_request m_row m_selected m_sent) (fun o o' => o.1 = o'.2.1 ∧ rAll N o.2.1 o.2.2.1 o.2.2.2.1 o.2.2.2.2.1 o.2.2.2.2.2.1 o.2.2.2.2.2.2.1 o.2.2.2.2.2.2.2.1 o.2.2.2.2.2.2.2.2.1 o.2.2.2.2.2.2.2.2.2.1 o.2.2.2.2.2.2.2.2.2.2.1 o.2.2.2.2.2.2.2.2.2.2.2.1 o.2.2.2.2.2.2.2.2.2.2.2.2.1 o.2.2.2.2.2.2.2.2.2.2.2.2.2.1 o.2.2.2.2.2.2.2.2.2.2.2.2.2.2.1 o.2.2.2.2.2.2.2.2.2.2.2.2.2.2.2.1 o.2.2.2.2.2.2.2.2.2.2.2.2.2.2.2.2.1 o.2.2.2.2.2.2.2.2.2.2.2.2.2.2.2.2.2.1 o.2.2.2.2.2.2.2.2.2.2.2.2.2.2.2.2.2.2.1 o.2.2.2.2.2.2.2.2.2.2.2.2.2.2.2.2.2.2.2.1 o.2.2.2.2.2.2.2.2.2.2.2.2.2.2.2.2.2.2.2.2.1 o.2.2.2.2.2.2.2.2.2.2.2.2.2.2.2.2.2.2.2.2.2.1 o.2.2.2.2.2.2.2.2.2.2.2.2.2.2.2.2.2.2.2.2.2.2.1 o.2.2.2.2.2.2.2.2.2.2.2.2.2.2.2.2.2.2.2.2.2.2.2.1 o.2.2.2.2.2.2.2.2.2.2.2.2.2.2.2.2.2.2.2.2.2.2.2.2.1 o.2.2.2.2.2.2.2.2.2.2.2.2.2.2.2.2.2.2.2.2.2.2.2.2.2.1 o.2.2.2.2.2.2.2.2.2.2.2.2.2.2.2.2.2.2.2.2.2.2.2.2.2.2.1 o.2.2.2.2.2.2.2.2.2.2.2.2.2.2.2.2.2.2.2.2.2.2.2.2.2.2.2.1 o.2.2.2.2.2.2.2.2.2.2.2.2.2.2.2.2.2.2.2.2.2.2.2.2.2.2.2.2.1 o.2.2.2.2.2.2.2.2.2.2.2.2.2.2.2.2.2.2.2.2.2.2.2.2.2.2.2.2.2.1 o.2.2.2.2.2.2.2.2.2.2.2.2.2.2.2.2.2.2.2.2.2.2.2.2.2.2.2.2.2.2.1 o.2.2.2.2.2.2.2.2.2.2.2.2.2.2.2.2.2.2.2.2.2.2.2.2.2.2.2.2.2.2.2.1 o.2.2.2.2.2.2.2.2.2.2.2.2.2.2.2.2.2.2.2.2.2.2.2.2.2.2.2.2.2.2.2.2.1 o.2.2.2.2.2.2.2.2.2.2.2.2.2.2.2.2.2.2.2.2.2.2.2.2.2.2.2.2.2.2.2.2.2.1 o.2.2.2.2.2.2.2.2.2.2.2.2.2.2.2.2.2.2.2.2.2.2.2.2.2.2.2.2.2.2.2.2.2.2.1 o.2.2.2.2.2.2.2.2.2.2.2.2.2.2.2.2.2.2.2.2.2.2.2.2.2.2.2.2.2.2.2.2.2.2.2.1 o.2.2.2.2.2.2.2.2.2.2.2.2.2.2.2.2.2.2.2.2.2.2.2.2.2.2.2.2.2.2.2.2.2.2.2.2.1 o.2.2.2.2.2.2.2.2.2.2.2.2.2.2.2.2.2.2.2.2.2.2.2.2.2.2.2.2.2.2.2.2.2.2.2.2.2.1 o.2.2.2.2.2.2.2.2.2.2.2.2.2.2.2.2.2.2.2.2.2.2.2.2.2.2.2.2.2.2.2.2.2.2.2.2.2.2.1 o.2.2.2.2.2.2.2.2.2.2.2.2.2.2.2.2.2.2.2.2.2.2.2.2.2.2.2.2.2.2.2.2.2.2.2.2.2.2.2.1 o.2.2.2.2.2.2.2.2.2.2.2.2.2.2.2.2.2.2.2.2.2.2.2.2.2.2.2.2.2.2.2.2.2.2.2.2.2.2.2.2.1 o.2.2.2.2.2.2.2.2.2.2.2.2.2.2.2.2.2.2.2.2.2.2.2.2.2.2.2.2.2.2.2.2.2.2.2.2.2.2.2.2.2.1 o.2.2.2.2.2.2.2.2.2.2.2.2.2.2.2.2.2.2.2.2.2.2.2.2.2.2.2.2.2.2.2.2.2.2.2.2.2.2.2.2.2.2.1 o.2.2.2.2.2.2.2.2.2.2.2.2.2.2.2.2.2.2.2.2.2.2.2.2.2.2.2.2.2.2.2.2.2.2.2.2.2.2.2.2.2.2.2.1 o.2.2.2.2.2.2.2.2.2.2.2.2.2.2.2.2.2.2.2.2.2.2.2.2.2.2.2.2.2.2.2.2.2.2.2.2.2.2.2.2.2.2.2.2.1 o.2.2.2.2.2.2.2.2.2.2.2.2.2.2.2.2.2.2.2.2.2.2.2.2.2.2.2.2.2.2.2.2.2.2.2.2.2.2.2.2.2.2.2.2.2.1 o.2.2.2.2.2.2.2.2.2.2.2.2.2.2.2.2.2.2.2.2.2.2.2.2.2.2.2.2.2.2.2.2.2.2.2.2.2.2.2.2.2.2.2.2.2.2.1 o.2.2.2.2.2.2.2.2.2.2.2.2.2.2.2.2.2.2.2.2.2.2.2.2.2.2.2.2.2.2.2.2.2.2.2.2.2.2.2.2.2.2.2.2.2.2.2.1 o.2.2.2.2.2.2.2.2.2.2.2.2.2.2.2.2.2.2.2.2.2.2.2.2.2.2.2.2.2.2.2.2.2.2.2.2.2.2.2.2.2.2.2.2.2.2.2.2.1 o'.2.2.1 o'.2.2.2.1 o'.2.2.2.2.1 o'.2.2.2.2.2.1 o'.2.2.2.2.2.2.1 o'.2.2.2.2.2.2.2.1 o'.2.2.2.2.2.2.2.2.1 o'.2.2.2.2.2.2.2.2.2.1 o'.2.2.2.2.2.2.2.2.2.2.1 o'.2.2.2.2.2.2.2.2.2.2.2.1 o'.2.2.2.2.2.2.2.2.2.2.2.2.1 o'.2.2.2.2.2.2.2.2.2.2.2.2.2.1 o'.2.2.2.2.2.2.2.2.2.2.2.2.2.2.1 o'.2.2.2.2.2.2.2.2.2.2.2.2.2.2.2.1 o'.2.2.2.2.2.2.2.2.2.2.2.2.2.2.2.2.1 o'.2.2.2.2.2.2.2.2.2.2.2.2.2.2.2.2.2.1 o'.2.2.2.2.2.2.2.2.2.2.2.2.2.2.2.2.2.2.1 o'.2.2.2.2.2.2.2.2.2.2.2.2.2.2.2.2.2.2.2.1 o'.2.2.2.2.2.2.2.2.2.2.2.2.2.2.2.2.2.2.2.2.1 o'.2.2.2.2.2.2.2.2.2.2.2.2.2.2.2.2.2.2.2.2.2.1 o'.2.2.2.2.2.2.2.2.2.2.2.2.2.2.2.2.2.2.2.2.2.2.1 o'.2.2.2.2.2.2.2.2.2.2.2.2.2.2.2.2.2.2.2.2.2.2.2.1 o'.2.2.2.2.2.2.2.2.2.2.2.2.2.2.2.2.2.2.2.2.2.2.2.2.1 o'.2.2.2.2.2.2.2.2.2.2.2.2.2.2.2.2.2.2.2.2.2.2.2.2.2.1 o'.2.2.2.2.2.2.2.2.2.2.2.2.2.2.2.2.2.2.2.2.2.2.2.2.2.2.1 o'.2.2.2.2.2.2.2.2.2.2.2.2.2.2.2.2.2.2.2.2.2.2.2.2.2.2.2.1 o'.2.2.2.2.2.2.2.2.2.2.2.2.2.2.2.2.2.2.2.2.2.2.2.2.2.2.2.2.1 o'.2.2.2.2.2.2.2.2.2.2.2.2.2.2.2.2.2.2.2.2.2.2.2.2.2.2.2.2.2.1 o'.2.2.2.2.2.2.2.2.2.2.2.2.2.2.2.2.2.2.2.2.2.2.2.2.2.2.2.2.2.2.1 o'.2.2.2.2.2.2.2.2.2.2.2.2.2.2.2.2.2.2.2.2.2.2.2.2.2.2.2.2.2.2.2.1 o'.2.2.2.2.2.2.2.2.2.2.2.2.2.2.2.2.2.2.2.2.2.2.2.2.2.2.2.2.2.2.2.2.1 o'.2.2.2.2.2.2.2.2.2.2.2.2.2.2.2.2.2.2.2.2.2.2.2.2.2.2.2.2.2.2.2.2.2.1 o'.2.2.2.2.2.2.2.2.2.2.2.2.2.2.2.2.2.2.2.2.2.2.2.2.2.2.2.2.2.2.2.2.2.2.1 o'.2.2.2.2.2.2.2.2.2.2.2.2.2.2.2.2.2.2.2.2.2.2.2.2.2.2.2.2.2.2.2.2.2.2.2.1 o'.2.2.2.2.2.2.2.2.2.2.2.2.2.2.2.2.2.2.2.2.2.2.2.2.2.2.2.2.2.2.2.2.2.2.2.2.1 o'.2.2.2.2.2.2.2.2.2.2.2.2.2.2.2.2.2.2.2.2.2.2.2.2.2.2.2.2.2.2.2.2.2.2.2.2.2 ∧ (o.1 = 0 → o.2.2.2.2.2.2.2.2.2.2.2.2.2.2.2.2.2.2.2.2.2.2.2.2.2.2.2.2.2.2.2.2.2.2.2.2.2.2.2.2.2.2.2.2.2.2.2.2.2 0 = (o'.1).toInt64)) := by
  unfold fL_feed fX10_feed fX10_feed_L14 fX10_feed_L19
  by_cases hb : x6 < 1 ∨ ¬ x6 ≤ 20
  · have e : fX9_feed N N N c_ticks c_incoming_address c_incoming_master c_outgoing_address c_outgoing_master c_points_on c_points_values c_relays_timeout x1 x2 x3 x4 x5 x6 c_requests c_restarted c_answer_length c_answer_requestLength c_answer_faults c_answer_withBinaries c_answer_withAnalogs c_answer_withEvents c_answer_request c_answer_row c_assembly_length c_assembly_open c_assembly_number c_assembly_fragment c_events_lost c_events_awaited c_events_rows_0_length c_events_rows_0_answered c_events_rows_0_kinds c_events_rows_0_numbers c_events_rows_0_values c_events_rows_1_length c_events_rows_1_answered c_events_rows_1_kinds c_events_rows_1_numbers c_events_rows_1_values c_events_rows_2_length c_events_rows_2_answered c_events_rows_2_kinds c_events_rows_2_numbers c_events_rows_2_values c_frames c_incoming_length c_incoming_dataLength c_incoming_control c_incoming_data c_incoming_row c_link_wasReset c_link_nextCount c_link_taking c_outgoing_length c_outgoing_nextNumber c_outgoing_row c_relays_acted c_relays_selectedLength c_relays_selectedTick c_relays_codes c_relays_selected = some (.inl 0) := by
      unfold fX9_feed fX9_feed_L13
      by_cases h1 : x6 < 1
      · rw [brc_t h1]
      · rw [brc_f h1, brc_f (hb.resolve_left h1)]
    rw [e, bnd_t rfl, cas_0, grd_t rfl]
    have fin : ok2 (some ((1 : Int32), c_requests, c_restarted, c_answer_length, c_answer_requestLength, c_answer_faults, c_answer_withBinaries, c_answer_withAnalogs, c_answer_withEvents, c_answer_request, c_answer_row, c_assembly_length, c_assembly_open, c_assembly_number, c_assembly_fragment, c_events_lost, c_events_awaited, c_events_rows_0_length, c_events_rows_0_answered, c_events_rows_0_kinds, c_events_rows_0_numbers, c_events_rows_0_values, c_events_rows_1_length, c_events_rows_1_answered, c_events_rows_1_kinds, c_events_rows_1_numbers, c_events_rows_1_values, c_events_rows_2_length, c_events_rows_2_answered, c_events_rows_2_kinds, c_events_rows_2_numbers, c_events_rows_2_values, c_frames, c_incoming_length, c_incoming_dataLength, c_incoming_control, c_incoming_data, c_incoming_row, c_link_wasReset, c_link_nextCount, c_link_taking, c_outgoing_length, c_outgoing_nextNumber, c_outgoing_row, c_relays_acted, c_relays_selectedLength, c_relays_selectedTick, c_relays_codes, c_relays_selected, out)) (some ((0 : Int32), (1 : Int32), m_rowSize, m_good, m_bad, m_foreign, m_requests, m_acts, m_wasReset, m_nextCount, m_dataSize, m_fragmentSize, m_segment, m_requestSize, m_answerSize, m_sentSize, m_sentNumber, m_restarted, m_lost, m_waits, m_selectedSize, m_selectedSequence, m_selectedTime, m_faults, m_hasEvents, m_hasBinaries, m_hasAnalogs, m_answer, m_data, m_eventCounts, m_events, m_fragment, m_frame, m_relays, m_request, m_row, m_selected, m_sent)) (fun o o' => o.1 = o'.2.1 ∧ rAll N o.2.1 o.2.2.1 o.2.2.2.1 o.2.2.2.2.1 o.2.2.2.2.2.1 o.2.2.2.2.2.2.1 o.2.2.2.2.2.2.2.1 o.2.2.2.2.2.2.2.2.1 o.2.2.2.2.2.2.2.2.2.1 o.2.2.2.2.2.2.2.2.2.2.1 o.2.2.2.2.2.2.2.2.2.2.2.1 o.2.2.2.2.2.2.2.2.2.2.2.2.1 o.2.2.2.2.2.2.2.2.2.2.2.2.2.1 o.2.2.2.2.2.2.2.2.2.2.2.2.2.2.1 o.2.2.2.2.2.2.2.2.2.2.2.2.2.2.2.1 o.2.2.2.2.2.2.2.2.2.2.2.2.2.2.2.2.1 o.2.2.2.2.2.2.2.2.2.2.2.2.2.2.2.2.2.1 o.2.2.2.2.2.2.2.2.2.2.2.2.2.2.2.2.2.2.1 o.2.2.2.2.2.2.2.2.2.2.2.2.2.2.2.2.2.2.2.1 o.2.2.2.2.2.2.2.2.2.2.2.2.2.2.2.2.2.2.2.2.1 o.2.2.2.2.2.2.2.2.2.2.2.2.2.2.2.2.2.2.2.2.2.1 o.2.2.2.2.2.2.2.2.2.2.2.2.2.2.2.2.2.2.2.2.2.2.1 o.2.2.2.2.2.2.2.2.2.2.2.2.2.2.2.2.2.2.2.2.2.2.2.1 o.2.2.2.2.2.2.2.2.2.2.2.2.2.2.2.2.2.2.2.2.2.2.2.2.1 o.2.2.2.2.2.2.2.2.2.2.2.2.2.2.2.2.2.2.2.2.2.2.2.2.2.1 o.2.2.2.2.2.2.2.2.2.2.2.2.2.2.2.2.2.2.2.2.2.2.2.2.2.2.1 o.2.2.2.2.2.2.2.2.2.2.2.2.2.2.2.2.2.2.2.2.2.2.2.2.2.2.2.1 o.2.2.2.2.2.2.2.2.2.2.2.2.2.2.2.2.2.2.2.2.2.2.2.2.2.2.2.2.1 o.2.2.2.2.2.2.2.2.2.2.2.2.2.2.2.2.2.2.2.2.2.2.2.2.2.2.2.2.2.1 o.2.2.2.2.2.2.2.2.2.2.2.2.2.2.2.2.2.2.2.2.2.2.2.2.2.2.2.2.2.2.1 o.2.2.2.2.2.2.2.2.2.2.2.2.2.2.2.2.2.2.2.2.2.2.2.2.2.2.2.2.2.2.2.1 o.2.2.2.2.2.2.2.2.2.2.2.2.2.2.2.2.2.2.2.2.2.2.2.2.2.2.2.2.2.2.2.2.1 o.2.2.2.2.2.2.2.2.2.2.2.2.2.2.2.2.2.2.2.2.2.2.2.2.2.2.2.2.2.2.2.2.2.1 o.2.2.2.2.2.2.2.2.2.2.2.2.2.2.2.2.2.2.2.2.2.2.2.2.2.2.2.2.2.2.2.2.2.2.1 o.2.2.2.2.2.2.2.2.2.2.2.2.2.2.2.2.2.2.2.2.2.2.2.2.2.2.2.2.2.2.2.2.2.2.2.1 o.2.2.2.2.2.2.2.2.2.2.2.2.2.2.2.2.2.2.2.2.2.2.2.2.2.2.2.2.2.2.2.2.2.2.2.2.1 o.2.2.2.2.2.2.2.2.2.2.2.2.2.2.2.2.2.2.2.2.2.2.2.2.2.2.2.2.2.2.2.2.2.2.2.2.2.1 o.2.2.2.2.2.2.2.2.2.2.2.2.2.2.2.2.2.2.2.2.2.2.2.2.2.2.2.2.2.2.2.2.2.2.2.2.2.2.1 o.2.2.2.2.2.2.2.2.2.2.2.2.2.2.2.2.2.2.2.2.2.2.2.2.2.2.2.2.2.2.2.2.2.2.2.2.2.2.2.1 o.2.2.2.2.2.2.2.2.2.2.2.2.2.2.2.2.2.2.2.2.2.2.2.2.2.2.2.2.2.2.2.2.2.2.2.2.2.2.2.2.1 o.2.2.2.2.2.2.2.2.2.2.2.2.2.2.2.2.2.2.2.2.2.2.2.2.2.2.2.2.2.2.2.2.2.2.2.2.2.2.2.2.2.1 o.2.2.2.2.2.2.2.2.2.2.2.2.2.2.2.2.2.2.2.2.2.2.2.2.2.2.2.2.2.2.2.2.2.2.2.2.2.2.2.2.2.2.1 o.2.2.2.2.2.2.2.2.2.2.2.2.2.2.2.2.2.2.2.2.2.2.2.2.2.2.2.2.2.2.2.2.2.2.2.2.2.2.2.2.2.2.2.1 o.2.2.2.2.2.2.2.2.2.2.2.2.2.2.2.2.2.2.2.2.2.2.2.2.2.2.2.2.2.2.2.2.2.2.2.2.2.2.2.2.2.2.2.2.1 o.2.2.2.2.2.2.2.2.2.2.2.2.2.2.2.2.2.2.2.2.2.2.2.2.2.2.2.2.2.2.2.2.2.2.2.2.2.2.2.2.2.2.2.2.2.1 o.2.2.2.2.2.2.2.2.2.2.2.2.2.2.2.2.2.2.2.2.2.2.2.2.2.2.2.2.2.2.2.2.2.2.2.2.2.2.2.2.2.2.2.2.2.2.1 o.2.2.2.2.2.2.2.2.2.2.2.2.2.2.2.2.2.2.2.2.2.2.2.2.2.2.2.2.2.2.2.2.2.2.2.2.2.2.2.2.2.2.2.2.2.2.2.1 o.2.2.2.2.2.2.2.2.2.2.2.2.2.2.2.2.2.2.2.2.2.2.2.2.2.2.2.2.2.2.2.2.2.2.2.2.2.2.2.2.2.2.2.2.2.2.2.2.1 o'.2.2.1 o'.2.2.2.1 o'.2.2.2.2.1 o'.2.2.2.2.2.1 o'.2.2.2.2.2.2.1 o'.2.2.2.2.2.2.2.1 o'.2.2.2.2.2.2.2.2.1 o'.2.2.2.2.2.2.2.2.2.1 o'.2.2.2.2.2.2.2.2.2.2.1 o'.2.2.2.2.2.2.2.2.2.2.2.1 o'.2.2.2.2.2.2.2.2.2.2.2.2.1 o'.2.2.2.2.2.2.2.2.2.2.2.2.2.1 o'.2.2.2.2.2.2.2.2.2.2.2.2.2.2.1 o'.2.2.2.2.2.2.2.2.2.2.2.2.2.2.2.1 o'.2.2.2.2.2.2.2.2.2.2.2.2.2.2.2.2.1 o'.2.2.2.2.2.2.2.2.2.2.2.2.2.2.2.2.2.1 o'.2.2.2.2.2.2.2.2.2.2.2.2.2.2.2.2.2.2.1 o'.2.2.2.2.2.2.2.2.2.2.2.2.2.2.2.2.2.2.2.1 o'.2.2.2.2.2.2.2.2.2.2.2.2.2.2.2.2.2.2.2.2.1 o'.2.2.2.2.2.2.2.2.2.2.2.2.2.2.2.2.2.2.2.2.2.1 o'.2.2.2.2.2.2.2.2.2.2.2.2.2.2.2.2.2.2.2.2.2.2.1 o'.2.2.2.2.2.2.2.2.2.2.2.2.2.2.2.2.2.2.2.2.2.2.2.1 o'.2.2.2.2.2.2.2.2.2.2.2.2.2.2.2.2.2.2.2.2.2.2.2.2.1 o'.2.2.2.2.2.2.2.2.2.2.2.2.2.2.2.2.2.2.2.2.2.2.2.2.2.1 o'.2.2.2.2.2.2.2.2.2.2.2.2.2.2.2.2.2.2.2.2.2.2.2.2.2.2.1 o'.2.2.2.2.2.2.2.2.2.2.2.2.2.2.2.2.2.2.2.2.2.2.2.2.2.2.2.1 o'.2.2.2.2.2.2.2.2.2.2.2.2.2.2.2.2.2.2.2.2.2.2.2.2.2.2.2.2.1 o'.2.2.2.2.2.2.2.2.2.2.2.2.2.2.2.2.2.2.2.2.2.2.2.2.2.2.2.2.2.1 o'.2.2.2.2.2.2.2.2.2.2.2.2.2.2.2.2.2.2.2.2.2.2.2.2.2.2.2.2.2.2.1 o'.2.2.2.2.2.2.2.2.2.2.2.2.2.2.2.2.2.2.2.2.2.2.2.2.2.2.2.2.2.2.2.1 o'.2.2.2.2.2.2.2.2.2.2.2.2.2.2.2.2.2.2.2.2.2.2.2.2.2.2.2.2.2.2.2.2.1 o'.2.2.2.2.2.2.2.2.2.2.2.2.2.2.2.2.2.2.2.2.2.2.2.2.2.2.2.2.2.2.2.2.2.1 o'.2.2.2.2.2.2.2.2.2.2.2.2.2.2.2.2.2.2.2.2.2.2.2.2.2.2.2.2.2.2.2.2.2.2.1 o'.2.2.2.2.2.2.2.2.2.2.2.2.2.2.2.2.2.2.2.2.2.2.2.2.2.2.2.2.2.2.2.2.2.2.2.1 o'.2.2.2.2.2.2.2.2.2.2.2.2.2.2.2.2.2.2.2.2.2.2.2.2.2.2.2.2.2.2.2.2.2.2.2.2.1 o'.2.2.2.2.2.2.2.2.2.2.2.2.2.2.2.2.2.2.2.2.2.2.2.2.2.2.2.2.2.2.2.2.2.2.2.2.2 ∧ (o.1 = 0 → o.2.2.2.2.2.2.2.2.2.2.2.2.2.2.2.2.2.2.2.2.2.2.2.2.2.2.2.2.2.2.2.2.2.2.2.2.2.2.2.2.2.2.2.2.2.2.2.2.2 0 = (o'.1).toInt64)) := ok2_ss ⟨rfl, hr, fun z => absurd z (show ¬ (1 : Int32) = 0 by decide)⟩
    by_cases h1 : x6 < 1
    · rw [brc_t h1, brc_f (by decide)]; exact fin
    · rw [brc_f h1, brc_f (hb.resolve_left h1), brc_f (by decide)]; exact fin
  · have h1 : ¬ x6 < 1 := fun q => hb (Or.inl q)
    have h20 : x6 ≤ 20 := Classical.byContradiction (fun q => hb (Or.inr q))
    have hx : 1 ≤ x6.toInt ∧ x6.toInt ≤ 20 := by
      have g1 := h1
      have g2 := h20
      rw [z_lt] at g1
      rw [z_le] at g2
      simp only [Int32.reduceToInt] at g1 g2
      omega
    obtain ⟨n, hn⟩ : ∃ n : Nat, n = ix x6 := ⟨_, rfl⟩
    have hn6 : x6 = nI n := by rw [hn]; exact z_of (by omega)
    have hnb : 1 ≤ n ∧ n ≤ 20 := by rw [hn, z_ix]; omega
    clear hx hn
    subst hn6
    obtain ⟨⟨len, hlen, l1, l2⟩, hrow, hbr, hdat, hbd, q1, q2, q3, hrest⟩ := hr
    subst l1
    subst l2
    subst hrow
    subst hdat
    rw [brc_f h1, brc_t h20, brc_t (show (0 : Int32) ≤ 0 by decide)]
    have em := m_in (m_address := m_address) (m_master := m_master) (m_timeout := m_timeout) (m_ticks := m_ticks) (m_analogs := m_analogs) (m_binaries := m_binaries) (x1 := x1) (x2 := x2) (x3 := x3) (x4 := x4) (x5 := x5) (m_thrown := (0 : Int32)) (m_good := m_good) (m_bad := m_bad) (m_foreign := m_foreign) (m_requests := m_requests) (m_acts := m_acts) (m_wasReset := m_wasReset) (m_nextCount := m_nextCount) (m_dataSize := m_dataSize) (m_fragmentSize := m_fragmentSize) (m_segment := m_segment) (m_requestSize := m_requestSize) (m_answerSize := m_answerSize) (m_sentSize := m_sentSize) (m_sentNumber := m_sentNumber) (m_restarted := m_restarted) (m_lost := m_lost) (m_waits := m_waits) (m_selectedSize := m_selectedSize) (m_selectedSequence := m_selectedSequence) (m_selectedTime := m_selectedTime) (m_faults := m_faults) (m_hasEvents := m_hasEvents) (m_hasBinaries := m_hasBinaries) (m_hasAnalogs := m_hasAnalogs) (m_answer := m_answer) (m_data := m_data) (m_eventCounts := m_eventCounts) (m_events := m_events) (m_fragment := m_fragment) (m_frame := m_frame) (m_relays := m_relays) (m_request := m_request) (m_selected := m_selected) (m_sent := m_sent) (n := n) (p := 4999 - n) (len := len) (f := m_row) hnb.2 hnb.1 hlen
    rw [show 4999 - n + n + 1 = FU by unfold FU; omega] at em
    have ts : ∀ j : Nat, j ≤ 16 → (nI n - nI j).toInt = (n : Int) - j := fun j hj => pk_sub_toInt (by omega) (by omega)
    have w1 : fX4_addWord x1 (nI n) (nI len) m_row = some (nI (len + min n 4), addB x1 0 (min n 4) len m_row) := c_addW (by omega) (by rw [z_nI (by omega)]; split <;> (try split) <;> omega)
    have w2 : fX4_addWord x2 (nI n - 4) (nI (len + min n 4)) (addB x1 0 (min n 4) len m_row) = some (nI (len + min n 4 + min (n - 4) 4), addB x2 0 (min (n - 4) 4) (len + min n 4) (addB x1 0 (min n 4) len m_row)) := c_addW (by omega) (by rw [show (4 : Int32) = nI 4 from rfl, ts 4 (by decide)]; split <;> (try split) <;> omega)
    have w3 : fX4_addWord x3 (nI n - 8) (nI (len + min n 4 + min (n - 4) 4)) (addB x2 0 (min (n - 4) 4) (len + min n 4) (addB x1 0 (min n 4) len m_row)) = some (nI (len + min n 4 + min (n - 4) 4 + min (n - 8) 4), addB x3 0 (min (n - 8) 4) (len + min n 4 + min (n - 4) 4) (addB x2 0 (min (n - 4) 4) (len + min n 4) (addB x1 0 (min n 4) len m_row))) := c_addW (by omega) (by rw [show (8 : Int32) = nI 8 from rfl, ts 8 (by decide)]; split <;> (try split) <;> omega)
    have w4 : fX4_addWord x4 (nI n - 12) (nI (len + min n 4 + min (n - 4) 4 + min (n - 8) 4)) (addB x3 0 (min (n - 8) 4) (len + min n 4 + min (n - 4) 4) (addB x2 0 (min (n - 4) 4) (len + min n 4) (addB x1 0 (min n 4) len m_row))) = some (nI (len + min n 4 + min (n - 4) 4 + min (n - 8) 4 + min (n - 12) 4), addB x4 0 (min (n - 12) 4) (len + min n 4 + min (n - 4) 4 + min (n - 8) 4) (addB x3 0 (min (n - 8) 4) (len + min n 4 + min (n - 4) 4) (addB x2 0 (min (n - 4) 4) (len + min n 4) (addB x1 0 (min n 4) len m_row)))) := c_addW (by omega) (by rw [show (12 : Int32) = nI 12 from rfl, ts 12 (by decide)]; split <;> (try split) <;> omega)
    have w5 : fX4_addWord x5 (nI n - 16) (nI (len + min n 4 + min (n - 4) 4 + min (n - 8) 4 + min (n - 12) 4)) (addB x4 0 (min (n - 12) 4) (len + min n 4 + min (n - 4) 4 + min (n - 8) 4) (addB x3 0 (min (n - 8) 4) (len + min n 4 + min (n - 4) 4) (addB x2 0 (min (n - 4) 4) (len + min n 4) (addB x1 0 (min n 4) len m_row)))) = some (nI (len + n), inB x1 x2 x3 x4 x5 n len m_row) := by
      have e := c_addW (w := x5) (x2 := nI n - 16) (k := n - 16) (len := len + min n 4 + min (n - 4) 4 + min (n - 8) 4 + min (n - 12) 4) (f := addB x4 0 (min (n - 12) 4) (len + min n 4 + min (n - 4) 4 + min (n - 8) 4) (addB x3 0 (min (n - 8) 4) (len + min n 4 + min (n - 4) 4) (addB x2 0 (min (n - 4) 4) (len + min n 4) (addB x1 0 (min n 4) len m_row)))) (by omega) (by rw [show (16 : Int32) = nI 16 from rfl, ts 16 (by decide)]; split <;> (try split) <;> omega)
      rw [show len + min n 4 + min (n - 4) 4 + min (n - 8) 4 + min (n - 12) 4 + (n - 16) = len + n by omega] at e
      exact e
    have ec : (fX9_feed N N N c_ticks c_incoming_address c_incoming_master c_outgoing_address c_outgoing_master c_points_on c_points_values c_relays_timeout x1 x2 x3 x4 x5 (nI n) c_requests c_restarted c_answer_length c_answer_requestLength c_answer_faults c_answer_withBinaries c_answer_withAnalogs c_answer_withEvents c_answer_request c_answer_row c_assembly_length c_assembly_open c_assembly_number c_assembly_fragment c_events_lost c_events_awaited c_events_rows_0_length c_events_rows_0_answered c_events_rows_0_kinds c_events_rows_0_numbers c_events_rows_0_values c_events_rows_1_length c_events_rows_1_answered c_events_rows_1_kinds c_events_rows_1_numbers c_events_rows_1_values c_events_rows_2_length c_events_rows_2_answered c_events_rows_2_kinds c_events_rows_2_numbers c_events_rows_2_values c_frames (nI len) c_incoming_dataLength c_incoming_control m_data m_row c_link_wasReset c_link_nextCount c_link_taking c_outgoing_length c_outgoing_nextNumber c_outgoing_row c_relays_acted c_relays_selectedLength c_relays_selectedTick c_relays_codes c_relays_selected) = (fX9_feed_L92 N N N c_ticks c_incoming_address c_incoming_master c_outgoing_address c_outgoing_master c_points_on c_points_values c_relays_timeout FU (0 : Int32) (0 : Int32) c_requests c_restarted c_answer_length c_answer_requestLength c_answer_faults c_answer_withBinaries c_answer_withAnalogs c_answer_withEvents c_answer_request c_answer_row c_assembly_length c_assembly_open c_assembly_number c_assembly_fragment c_events_lost c_events_awaited c_events_rows_0_length c_events_rows_0_answered c_events_rows_0_kinds c_events_rows_0_numbers c_events_rows_0_values c_events_rows_1_length c_events_rows_1_answered c_events_rows_1_kinds c_events_rows_1_numbers c_events_rows_1_values c_events_rows_2_length c_events_rows_2_answered c_events_rows_2_kinds c_events_rows_2_numbers c_events_rows_2_values c_frames (nI (len + n)) c_incoming_dataLength c_incoming_control m_data (inB x1 x2 x3 x4 x5 n len m_row) c_link_wasReset c_link_nextCount c_link_taking c_outgoing_length c_outgoing_nextNumber c_outgoing_row c_relays_acted c_relays_selectedLength c_relays_selectedTick c_relays_codes c_relays_selected) := by
      unfold fX9_feed
      rw [brc_f h1, brc_t h20, bnd_t w1, bnd_t w2, bnd_t w3, bnd_t w4, bnd_t w5]
    rw [ec, em]
    have el := r_feed_loop (bf := m_good) (m_thrown := 0) (c_ticks := c_ticks) (c_outgoing_address := c_outgoing_address) (c_outgoing_master := c_outgoing_master) (c_points_values := c_points_values) (m_analogs := m_analogs) (m_binaries := m_binaries) hN hon had hma htk htm (len + n) (len + n) 0 (4999 - (len + n)) (4998 - (len + n)) (inB x1 x2 x3 x4 x5 n len m_row) 0 (c_requests := c_requests) (c_restarted := c_restarted) (c_answer_length := c_answer_length) (c_answer_requestLength := c_answer_requestLength) (c_answer_faults := c_answer_faults) (c_answer_withBinaries := c_answer_withBinaries) (c_answer_withAnalogs := c_answer_withAnalogs) (c_answer_withEvents := c_answer_withEvents) (c_answer_request := c_answer_request) (c_answer_row := c_answer_row) (c_assembly_length := c_assembly_length) (c_assembly_open := c_assembly_open) (c_assembly_number := c_assembly_number) (c_assembly_fragment := c_assembly_fragment) (c_events_lost := c_events_lost) (c_events_awaited := c_events_awaited) (c_events_rows_0_length := c_events_rows_0_length) (c_events_rows_0_answered := c_events_rows_0_answered) (c_events_rows_0_kinds := c_events_rows_0_kinds) (c_events_rows_0_numbers := c_events_rows_0_numbers) (c_events_rows_0_values := c_events_rows_0_values) (c_events_rows_1_length := c_events_rows_1_length) (c_events_rows_1_answered := c_events_rows_1_answered) (c_events_rows_1_kinds := c_events_rows_1_kinds) (c_events_rows_1_numbers := c_events_rows_1_numbers) (c_events_rows_1_values := c_events_rows_1_values) (c_events_rows_2_length := c_events_rows_2_length) (c_events_rows_2_answered := c_events_rows_2_answered) (c_events_rows_2_kinds := c_events_rows_2_kinds) (c_events_rows_2_numbers := c_events_rows_2_numbers) (c_events_rows_2_values := c_events_rows_2_values) (c_frames := c_frames) (c_incoming_dataLength := c_incoming_dataLength) (c_incoming_control := c_incoming_control) (c_incoming_data := m_data) (c_link_wasReset := c_link_wasReset) (c_link_nextCount := c_link_nextCount) (c_link_taking := c_link_taking) (c_outgoing_length := c_outgoing_length) (c_outgoing_nextNumber := c_outgoing_nextNumber) (c_outgoing_row := c_outgoing_row) (c_relays_acted := c_relays_acted) (c_relays_selectedLength := c_relays_selectedLength) (c_relays_selectedTick := c_relays_selectedTick) (c_relays_codes := c_relays_codes) (c_relays_selected := c_relays_selected) (m_good := m_good) (m_bad := m_bad) (m_foreign := m_foreign) (m_requests := m_requests) (m_acts := m_acts) (m_wasReset := m_wasReset) (m_nextCount := m_nextCount) (m_dataSize := m_dataSize) (m_fragmentSize := m_fragmentSize) (m_segment := m_segment) (m_requestSize := m_requestSize) (m_answerSize := m_answerSize) (m_sentSize := m_sentSize) (m_sentNumber := m_sentNumber) (m_restarted := m_restarted) (m_lost := m_lost) (m_waits := m_waits) (m_selectedSize := m_selectedSize) (m_selectedSequence := m_selectedSequence) (m_selectedTime := m_selectedTime) (m_faults := m_faults) (m_hasEvents := m_hasEvents) (m_hasBinaries := m_hasBinaries) (m_hasAnalogs := m_hasAnalogs) (m_answer := m_answer) (m_eventCounts := m_eventCounts) (m_events := m_events) (m_fragment := m_fragment) (m_frame := m_frame) (m_relays := m_relays) (m_request := m_request) (m_selected := m_selected) (m_sent := m_sent) (Nat.le_refl _) (by omega) (byt_inB hbr) hbd q1 q2 q3 (by rw [Int32.add_zero]) hrest
    rw [show 4999 - (len + n) + (len + n) + 1 = FU by unfold FU; omega, show 4998 - (len + n) + (len + n) + 2 = FU by unfold FU; omega] at el
    obtain ⟨p, q, ep, eq, u, rfl, hu, hth, hall⟩ := el
    have ep' : (fX9_feed_L92 N N N c_ticks c_incoming_address c_incoming_master c_outgoing_address c_outgoing_master c_points_on c_points_values c_relays_timeout FU (0 : Int32) (0 : Int32) c_requests c_restarted c_answer_length c_answer_requestLength c_answer_faults c_answer_withBinaries c_answer_withAnalogs c_answer_withEvents c_answer_request c_answer_row c_assembly_length c_assembly_open c_assembly_number c_assembly_fragment c_events_lost c_events_awaited c_events_rows_0_length c_events_rows_0_answered c_events_rows_0_kinds c_events_rows_0_numbers c_events_rows_0_values c_events_rows_1_length c_events_rows_1_answered c_events_rows_1_kinds c_events_rows_1_numbers c_events_rows_1_values c_events_rows_2_length c_events_rows_2_answered c_events_rows_2_kinds c_events_rows_2_numbers c_events_rows_2_values c_frames (nI (len + n)) c_incoming_dataLength c_incoming_control m_data (inB x1 x2 x3 x4 x5 n len m_row) c_link_wasReset c_link_nextCount c_link_taking c_outgoing_length c_outgoing_nextNumber c_outgoing_row c_relays_acted c_relays_selectedLength c_relays_selectedTick c_relays_codes c_relays_selected) = some (.inr u) := ep
    rw [ep', eq, bnd_t rfl, cas_1, grd_t in01, ix0]
    refine ok2_ss ⟨hth.symm, hall, fun _ => ?_⟩
    show vp_updL out 0 (u.1).toInt64 0 = (q.1).toInt64
    rw [updL0, hu]
