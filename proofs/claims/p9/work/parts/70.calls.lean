/-! the other calls, on both sides -/
theorem cmp_self (x : Int64) : lg_cmp x x = 0 := by
  unfold lg_cmp
  rw [if_neg (Int64.lt_irrefl), if_pos rfl]
theorem cas_0 {α β : Type} {k : Nat} {fl : Nat → Option β} {fr : α → Option β} : cas (.inl k) fl fr = fl k := rfl
theorem cas_1 {α β : Type} {u : α} {fl : Nat → Option β} {fr : α → Option β} : cas (.inr u) fl fr = fr u := rfl
theorem updL0 {f : Nat → Int64} {x : Int64} : vp_updL f 0 x 0 = x := pk_uLs
theorem in01 : vp_in 0 1 := vp_in_nI (n := 0) (by decide) (by decide)
theorem upd_self {f : Nat → Int32} {k : Nat} {x : Int32} (h : f k = x) : upd f k x = f := by
  funext j
  by_cases e : j = k
  · rw [e, pk_us, h]
  · rw [pk_un e]
theorem e_tick {x th tk : Int32} (h0 : 0 ≤ tk.toInt) (h1 : tk.toInt ≤ 1000000000) : ∃ k tk', fL_tick x tk = some (k, tk') ∧ fX10_tick x th tk = some (k, tk') ∧ 0 ≤ tk'.toInt ∧ tk'.toInt ≤ 1000000000 := by
  unfold fL_tick fX9_tick fX9_tick_L15 fX10_tick fX10_tick_L16 fX10_tick_L21 fX10_tick_L45
  have bad : ∃ k tk', (bnd (some (.inl 0 : Nat ⊕ Int32)) (fun o1 => cas o1 (fun kx => grd (kx = 0) (some ((1 : Int32), tk))) (fun u1 => some ((0 : Int32), u1)))) = some (k, tk') ∧ brc ((1 : Int32) ≤ 0) (some ((1 : Int32), tk + x)) (some ((1 : Int32), tk)) = some (k, tk') ∧ 0 ≤ tk'.toInt ∧ tk'.toInt ≤ 1000000000 := by
    refine ⟨1, tk, ?_, ?_, h0, h1⟩
    · rw [bnd_t rfl]
      rw [cas_0, grd_t rfl]
    · rw [brc_f (by decide)]
  by_cases hx : x < 0
  · rw [brc_t hx, brc_t hx]
    exact bad
  · rw [brc_f hx, brc_f hx]
    by_cases hy : x ≤ (1000000000 : Int32) - tk
    · rw [brc_t hy, brc_t hy, brc_t (by decide)]
      rw [z_lt] at hx
      rw [z_le, Int32.toInt_sub, z_bm] at hy
      simp only [Int32.reduceToInt] at hx hy
      refine ⟨0, tk + x, ?_, rfl, ?_, ?_⟩
      · rw [bnd_t rfl]
        rfl
      · rw [Int32.toInt_add, z_bm]; omega
      · rw [Int32.toInt_add, z_bm]; omega
    · rw [brc_f hy, brc_f hy]
      exact bad
theorem e_take {ss : Nat} {th : Int32} : fX9_take (nI ss) = some (nI ss, 0) ∧ fX10_take th (nI ss) = some (nI ss, 0, 0) := ⟨rfl, rfl⟩
/-- what the law's own methods give of a call with an answer -/
theorem hv_l {out : Nat → Int64} {x : Option (Nat ⊕ Int32)} (h : x = some (.inl 1)) : bnd x (fun o1 => cas o1 (fun kx => grd (kx = 1) (some ((1 : Int32), out))) (fun u1 => grd (vp_in 0 1) (some ((0 : Int32), vp_updL out (ix 0) (u1.toInt64))))) = some (1, out) := by
  rw [h, bnd_t rfl]
  rw [cas_0, grd_t rfl]
theorem hv_r {out : Nat → Int64} {v : Int32} {j : Nat} {x : Option (Nat ⊕ Int32)} (h : x = some (.inr v)) : bnd x (fun o1 => cas o1 (fun kx => grd (kx = j) (some ((1 : Int32), out))) (fun u1 => grd (vp_in 0 1) (some ((0 : Int32), vp_updL out (ix 0) (u1.toInt64))))) = some (0, vp_updL out 0 v.toInt64) := by
  rw [h, bnd_t rfl]
  rw [cas_1, grd_t in01, ix0]
theorem e_relay {x th : Int32} {codes : Nat → Int32} {out : Nat → Int64} : ∃ k out' b, fL_relay 1 codes x out = some (k, out') ∧ fX10_relay codes x th = some (b, k) ∧ (k = 0 → out' 0 = b.toInt64) := by
  unfold fL_relay fX10_relay fX10_relay_L11 fX10_relay_L16 fX10_relay_L36
  have bad : ∀ q : Option (Nat ⊕ Int32), q = some (.inl 1) → ∃ k out' b, bnd q (fun o1 => cas o1 (fun kx => grd (kx = 1) (some ((1 : Int32), out))) (fun u1 => grd (vp_in 0 1) (some ((0 : Int32), vp_updL out (ix 0) (u1.toInt64))))) = some (k, out') ∧ brc ((1 : Int32) ≤ 0) (grd (vp_in x 8) (some (codes (ix x), (1 : Int32)))) (some ((0 : Int32), (1 : Int32))) = some (b, k) ∧ (k = 0 → out' 0 = b.toInt64) := by
    intro q hq
    refine ⟨1, out, 0, hv_l hq, ?_, fun h => absurd h (by decide)⟩
    rw [brc_f (by decide)]
  by_cases hx : x < 0
  · rw [brc_t hx]
    exact bad _ (by unfold fX9_relay fX9_relay_L10; rw [brc_t hx])
  · rw [brc_f hx]
    by_cases hy : x < 8
    · have hy7 : x ≤ 7 := by rw [z_lt] at hy; rw [z_le]; simp only [Int32.reduceToInt] at hy ⊢; omega
      have hv : vp_in x 8 := by rw [z_lt] at hx hy; rw [vp_in_iff]; simp only [Int32.reduceToInt] at hx hy; omega
      rw [brc_t hy7, brc_t (by decide), grd_t hv]
      refine ⟨0, _, codes (ix x), hv_r ?_, rfl, fun _ => updL0⟩
      unfold fX9_relay fX8_codeOf
      rw [brc_f hx, brc_t hy, grd_t hv, bnd_t rfl]
    · have hy7 : ¬ x ≤ 7 := by rw [z_lt] at hy; rw [z_le]; simp only [Int32.reduceToInt] at hy ⊢; omega
      rw [brc_f hy7]
      exact bad _ (by unfold fX9_relay fX9_relay_L10; rw [brc_f hx, brc_f hy])
theorem e_sent {x th : Int32} {ss : Nat} {row sent : Nat → Int32} {out : Nat → Int64} (hs : ss ≤ 4000) : ∃ k out' b, fL_sent 1 (nI ss) row x out = some (k, out') ∧ fX10_sent (nI ss) sent x th = some (b, k) ∧ (k = 0 ∨ k = 1) ∧ (ss = 0 → k = 1) := by
  unfold fL_sent fX10_sent fX10_sent_L13 fX10_sent_L18 fX10_sent_L38
  have bad : ∀ q : Option (Nat ⊕ Int32), q = some (.inl 1) → ∃ k out' b, bnd q (fun o1 => cas o1 (fun kx => grd (kx = 1) (some ((1 : Int32), out))) (fun u1 => grd (vp_in 0 1) (some ((0 : Int32), vp_updL out (ix 0) (u1.toInt64))))) = some (k, out') ∧ brc ((1 : Int32) ≤ 0) (grd (vp_in x 4000) (some (sent (ix x), (1 : Int32)))) (some ((0 : Int32), (1 : Int32))) = some (b, k) ∧ (k = 0 ∨ k = 1) ∧ (ss = 0 → k = 1) := by
    intro q hq
    refine ⟨1, out, 0, hv_l hq, ?_, Or.inr rfl, fun _ => rfl⟩
    rw [brc_f (by decide)]
  by_cases hx : x < 0
  · rw [brc_t hx]
    exact bad _ (by unfold fX9_sent fX9_sent_L15; rw [brc_t hx])
  · rw [brc_f hx]
    by_cases hy : x < nI ss
    · have h1 : 0 ≤ x.toInt ∧ x.toInt < ss := by rw [z_lt] at hx hy; rw [z_nI (by omega)] at hy; simp only [Int32.reduceToInt] at hx; omega
      have hv : vp_in x 4000 := by rw [vp_in_iff]; omega
      rw [brc_t hy, brc_t (by decide), grd_t hv]
      refine ⟨0, _, sent (ix x), hv_r (v := row (ix x)) ?_, rfl, Or.inl rfl, fun h => by omega⟩
      unfold fX9_sent fX6_size fX6_byteAt
      rw [brc_f hx, bnd_t rfl, brc_t hy, grd_t hv, bnd_t rfl]
    · rw [brc_f hy]
      exact bad _ (by unfold fX9_sent fX6_size fX9_sent_L15; rw [brc_f hx, bnd_t rfl, brc_f hy])
theorem e_check_loop {x : Int32} {n : Nat} (hn : n ≤ 300) : ∀ (j p q k c : Nat), c < 65536 → k + j = n → ∃ v, fX9_check_L26 (p + j + 1) x (nI n) (nI c) (nI k) = some (.inr v) ∧ fX10_check_L25 (q + j + 1) x (nI n) (nI c) (nI k) 0 = some (v, 0) := by
  intro j
  induction j with
  | zero =>
    intro p q k c hc hk
    have hk : k = n := hk
    subst hk
    have hkk : nI k ≤ nI k := nI_le (Nat.le_refl _) (by omega)
    refine ⟨nI c ^^^ 65535, ?_, ?_⟩
    · rw [fX9_check_L26_s, brc_t hkk]
    · rw [fX10_check_L25_s, brc_t hkk]
      unfold fX10_check_L57 fX10_check_L72
      rw [brc_t (by decide)]
  | succ j ih =>
    intro p q k c hc hk
    have hnk : ¬ nI n ≤ nI k := nI_ge (by omega) (by omega)
    obtain ⟨b, hb, eb⟩ := pk_andE (x + nI k) (m := (255 : Int32)) 8 (by decide)
    obtain ⟨v, g1, g2⟩ := ih p q (k + 1) (stir c b) (stir_lt hc (by omega)) (by omega)
    refine ⟨v, ?_, ?_⟩
    · rw [show p + (j + 1) + 1 = (p + j + 1) + 1 by omega, fX9_check_L26_s, brc_f hnk, eb, bnd_t (sti_ok hc (by omega)), nI_1]
      exact g1
    · rw [show q + (j + 1) + 1 = (q + j + 1) + 1 by omega, fX10_check_L25_s, brc_f hnk, brc_t rfl, eb, bnd_t (fur_ok hc (by omega)), nI_1]
      exact g2
theorem m_ck_thrown {x y c : Int32} {p : Nat} {k : Int32} : ok (fX10_check_L25 (p + 1) x y c k 1) (fun o => o = (0, 1)) := by
  rw [fX10_check_L25_s]
  unfold fX10_check_L57 fX10_check_L72
  refine ok_brc (fun _ => ?_) (fun _ => ?_)
  · rw [brc_f (by decide)]; exact ok_some rfl
  · rw [brc_f (by decide), brc_f (by decide)]; exact ok_some rfl
theorem e_check {x y th : Int32} {out : Nat → Int64} : ∃ k out' b, fL_check 1 x y out = some (k, out') ∧ fX10_check x y th = some (b, k) ∧ (k = 0 → out' 0 = b.toInt64) := by
  unfold fL_check fX10_check fX10_check_L12 fX10_check_L17
  have bad : ∀ q : Option (Nat ⊕ Int32), q = some (.inl 0) → ∃ k out' b, bnd q (fun o1 => cas o1 (fun kx => grd (kx = 0) (some ((1 : Int32), out))) (fun u1 => grd (vp_in 0 1) (some ((0 : Int32), vp_updL out (ix 0) (u1.toInt64))))) = some (k, out') ∧ fX10_check_L25 FU x y 0 0 1 = some (b, k) ∧ (k = 0 → out' 0 = b.toInt64) := by
    intro q hq
    obtain ⟨o, e, rfl⟩ := m_ck_thrown (x := x) (y := y) (c := 0) (p := 4999) (k := 0)
    refine ⟨1, out, 0, ?_, e, fun h => absurd h (by decide)⟩
    rw [hq, bnd_t rfl]
    rw [cas_0, grd_t rfl]
  by_cases hy : y < 0
  · rw [brc_t hy]
    exact bad _ (by unfold fX9_check fX9_check_L11; rw [brc_t hy])
  · rw [brc_f hy]
    by_cases hz : y ≤ 300
    · rw [brc_t hz]
      have h1 : 0 ≤ y.toInt ∧ y.toInt ≤ 300 := by rw [z_lt] at hy; rw [z_le] at hz; simp only [Int32.reduceToInt] at hy hz; omega
      have hn : ix y ≤ 300 := by rw [z_ix]; omega
      obtain ⟨v, g1, g2⟩ := e_check_loop (x := x) hn (ix y) (4999 - ix y) (4999 - ix y) 0 0 (by decide) (by omega)
      rw [show 4999 - ix y + ix y + 1 = FU by unfold FU; omega, ← z_of h1.1] at g1 g2
      refine ⟨0, _, v, hv_r ?_, g2, fun _ => updL0⟩
      unfold fX9_check
      rw [brc_f hy, brc_t hz]
      exact g1
    · rw [brc_f hz]
      exact bad _ (by unfold fX9_check fX9_check_L11; rw [brc_f hy, brc_f hz])
/-! points -/
theorem pt_t {x : Int32} (h : ¬ x < 0) (h2 : x ≤ 15) : fX9_isPoint x = some 1 ∧ vp_in x 16 ∧ vp_in x 32 ∧ ix x < 16 := by
  rw [z_lt] at h
  rw [z_le] at h2
  simp only [Int32.reduceToInt] at h h2
  refine ⟨?_, ?_, ?_, ?_⟩
  · unfold fX9_isPoint fX9_isPoint_L14 fX9_isPoint_L15
    rw [brc_f (by rw [z_lt]; simp only [Int32.reduceToInt]; omega), brc_f (by rw [z_le]; simp only [Int32.reduceToInt]; omega), grd_t (show isB 1 from Or.inr rfl)]
  · rw [vp_in_iff]; omega
  · rw [vp_in_iff]; omega
  · rw [z_ix]; omega
theorem pt_f {x : Int32} (h : x < 0 ∨ ¬ x ≤ 15) : fX9_isPoint x = some 0 := by
  unfold fX9_isPoint fX9_isPoint_L14 fX9_isPoint_L15
  rw [grd_t (show isB 0 from Or.inl rfl)]
  by_cases hx : x < 0
  · rw [brc_t hx]
  · rw [brc_f hx]
    rcases h with h | h
    · exact absurd h hx
    · rw [brc_t (by rw [z_le] at h ⊢; simp only [Int32.reduceToInt] at h ⊢; omega)]
theorem e_band {x v th : Int32} {ba : Nat → Int32} : ∃ k ba', fL_band x v ba = some (k, ba') ∧ fX10_band x v th ba = some (k, ba') := by
  unfold fL_band fX9_band fX9_band_L27 fX10_band fX10_band_L11 fX10_band_L25 fX10_band_L30 fX10_band_L47
  by_cases hp : x < 0 ∨ ¬ x ≤ 15
  · rw [bnd_t (pt_f hp), brc_t rfl, bnd_t rfl]
    refine ⟨1, ba, ?_, ?_⟩
    · rw [cas_0, brc_t rfl]
    · rw [brc_f (show ¬ (1 : Int32) = 0 by decide)]
      by_cases hx : x < 0
      · rw [brc_t hx]
      · rw [brc_f hx, brc_f (hp.resolve_left hx)]
  · have hx : ¬ x < 0 := fun q => hp (Or.inl q)
    have h15 : x ≤ 15 := Classical.byContradiction (fun q => hp (Or.inr q))
    obtain ⟨e1, hv, hv2, hi⟩ := pt_t hx h15
    rw [bnd_t e1, brc_f (show ¬ (1 : Int32) = 0 by decide), brc_f hx, brc_t h15]
    have bad : ∃ k ba', (bnd (some (.inl 0 : Nat ⊕ (Nat → Int32))) (fun o1 => cas o1 (fun kx => brc (kx = 1) (some ((1 : Int32), ba)) (grd (kx = 0) (some ((2 : Int32), ba)))) (fun u1 => some ((0 : Int32), u1)))) = some (k, ba') ∧ brc ((2 : Int32) = 0) (grd (vp_in x 16) (some ((2 : Int32), upd ba (ix x) v))) (some ((2 : Int32), ba)) = some (k, ba') := by
      refine ⟨2, ba, ?_, ?_⟩
      · rw [bnd_t rfl]
        rw [cas_0, brc_f (by decide), grd_t rfl]
      · rw [brc_f (by decide)]
    by_cases h0 : v < 0
    · rw [brc_t h0, brc_t h0]
      exact bad
    · rw [brc_f h0, brc_f h0]
      by_cases h1 : v ≤ 65535
      · rw [brc_t h1, brc_t h1]
        unfold fX7_changeBand
        refine ⟨0, upd ba (ix x) v, ?_, ?_⟩
        · rw [grd_t hv, bnd_t rfl, bnd_t rfl]
          rfl
        · rw [brc_t rfl, grd_t hv]
      · rw [brc_f h1, brc_f h1]
        exact bad
