/-! points: classes, events -/
def rCls (bc ac cl : Nat → Int32) : Prop := ∀ k, k < 16 → cl k = bc k ∧ cl (16 + k) = ac k ∧ (0 ≤ (bc k).toInt ∧ (bc k).toInt ≤ 3) ∧ (0 ≤ (ac k).toInt ∧ (ac k).toInt ≤ 3)
theorem upd_b0 {out : Nat → Int64} : vp_updL out (ix (0 : Int32)) (0 : Int64) 0 = (if (0 : Int32) = 0 then (0 : Int64) else 1) := by
  rw [ix0, updL0, if_pos rfl]
theorem upd_b1 {out : Nat → Int64} : vp_updL out (ix (0 : Int32)) (1 : Int64) 0 = (if (1 : Int32) = 0 then (0 : Int64) else 1) := by
  rw [ix0, updL0, if_neg (by decide)]
def rng (re : Nat → Int32) : Prop := ∀ k, -32768 ≤ (re k).toInt ∧ (re k).toInt ≤ 32767
theorem ix16 {x : Int32} (h : ¬ x < 0) (h2 : x ≤ 15) : ix ((16 : Int32) + x) = 16 + ix x ∧ vp_in ((16 : Int32) + x) 32 := by
  rw [z_lt] at h
  rw [z_le] at h2
  simp only [Int32.reduceToInt] at h h2
  have e : ((16 : Int32) + x).toInt = 16 + x.toInt := by
    rw [Int32.toInt_add, z_bm]
    simp only [Int32.reduceToInt]
    omega
  refine ⟨?_, ?_⟩
  · rw [z_ix, z_ix, e]; omega
  · rw [vp_in_iff, e]; omega
theorem e_sort {x1 x2 x3 th : Int32} {ac bc cl : Nat → Int32} {out : Nat → Int64} (h : rCls bc ac cl) : ok2 (fL_sort 1 x1 x2 x3 ac bc out) (fX10_sort x1 x2 x3 th cl) (fun o o' => o.1 = o'.2.1 ∧ rCls o.2.2.1 o.2.1 o'.2.2 ∧ isB o'.1 ∧ (o.1 = 0 → o.2.2.2 0 = (if o'.1 = 0 then (0 : Int64) else 1))) := by
  unfold fL_sort fX10_sort fX10_sort_L20 fX10_sort_L25
  have bad : ∀ q : Option (Nat ⊕ (Int32 × (Nat → Int32) × (Nat → Int32))), q = some (.inl 1) → ok2 (bnd q (fun o1 => cas o1 (fun kx => grd (kx = 1) (some ((1 : Int32), ac, bc, out))) (fun u1 => brc (u1.1 = 0) (fL_sort_L18 1 (0 : Int64) (0 : Int32) u1.2.1 u1.2.2 out) (fL_sort_L18 1 (1 : Int64) (0 : Int32) u1.2.1 u1.2.2 out)))) (brc ((1 : Int32) ≤ 0) (brc (x1 = 0) (fX10_sort_L49 x3 x2 1 cl) (fX10_sort_L49 x3 ((16 : Int32) + x2) 1 cl)) (some ((0 : Int32), (1 : Int32), cl))) (fun o o' => o.1 = o'.2.1 ∧ rCls o.2.2.1 o.2.1 o'.2.2 ∧ isB o'.1 ∧ (o.1 = 0 → o.2.2.2 0 = (if o'.1 = 0 then (0 : Int64) else 1))) := by
    intro q hq
    rw [hq, bnd_t rfl, cas_0, grd_t rfl, brc_f (by decide)]
    exact ok2_ss ⟨rfl, h, Or.inl rfl, fun z => absurd z (show ¬ (1 : Int32) = 0 by decide)⟩
  by_cases hx : x2 < 0
  · rw [brc_t hx]
    exact bad _ (by unfold fX9_sort; rw [bnd_t (pt_f (Or.inl hx)), brc_t rfl])
  · rw [brc_f hx]
    by_cases h15 : x2 ≤ 15
    · have hn15 : ¬ (15 : Int32) < x2 := by rw [z_le] at h15; rw [z_lt]; omega
      rw [brc_f hn15]
      obtain ⟨e1, hv, hv2, hi⟩ := pt_t hx h15
      obtain ⟨e16, hv16⟩ := ix16 hx h15
      by_cases h0 : x3 < 0
      · rw [brc_t h0]
        exact bad _ (by unfold fX9_sort fX9_sort_L26; rw [bnd_t e1, brc_f (by decide), brc_t h0])
      · rw [brc_f h0]
        by_cases h3 : x3 ≤ 3
        · have hr3 : 0 ≤ x3.toInt ∧ x3.toInt ≤ 3 := by rw [z_lt] at h0; rw [z_le] at h3; simp only [Int32.reduceToInt] at h0 h3; omega
          rw [brc_t h3, brc_t (show (0 : Int32) ≤ 0 by decide)]
          unfold fX9_sort fX9_sort_L49 fX7_changeClass fX7_changeClass_L15 fX7_changeClass_L15a fX7_changeClass_L30 fX7_changeClass_L30a fX10_sort_L49 fX10_sort_L67 fL_sort_L18
          rw [bnd_t e1, brc_f (show ¬ (1 : Int32) = 0 by decide), brc_f h0, brc_t h3]
          by_cases hb : x1 = 0
          · rw [brc_t hb, brc_t hb, brc_t (show (0 : Int32) = 0 from rfl), grd_t hv, grd_t hv2, (h (ix x2) hi).1]
            have hc : rCls (upd bc (ix x2) x3) ac (upd cl (ix x2) x3) := by
              intro k hk
              obtain ⟨c1, c2, c3, c4⟩ := h k hk
              by_cases e : k = ix x2
              · rw [e, pk_us, pk_us, pk_un (by omega)]
                rw [e] at c2 c4
                exact ⟨rfl, c2, hr3, c4⟩
              · rw [pk_un e, pk_un e, pk_un (by omega)]
                exact ⟨c1, c2, c3, c4⟩
            by_cases hq : bc (ix x2) = x3
            · rw [brc_t hq, brc_t hq, grd_t hv, grd_t (show isB 0 from Or.inl rfl), bnd_t rfl, grd_t (show isB 0 from Or.inl rfl), bnd_t rfl, cas_1, brc_t rfl, grd_t in01, grd_t hv2, grd_t (show isB 0 from Or.inl rfl)]
              exact ok2_ss ⟨rfl, hc, Or.inl rfl, fun _ => upd_b0 (out := out)⟩
            · rw [brc_f hq, brc_f hq, grd_t hv, grd_t (show isB 1 from Or.inr rfl), bnd_t rfl, grd_t (show isB 1 from Or.inr rfl), bnd_t rfl, cas_1, brc_f (show ¬ (1 : Int32) = 0 by decide), grd_t in01, grd_t hv2, grd_t (show isB 1 from Or.inr rfl)]
              exact ok2_ss ⟨rfl, hc, Or.inr rfl, fun _ => upd_b1 (out := out)⟩
          · rw [brc_f hb, brc_f hb, brc_f (show ¬ (1 : Int32) = 0 by decide), grd_t hv, grd_t hv16, e16, (h (ix x2) hi).2.1]
            have hc : rCls bc (upd ac (ix x2) x3) (upd cl (16 + ix x2) x3) := by
              intro k hk
              obtain ⟨c1, c2, c3, c4⟩ := h k hk
              by_cases e : k = ix x2
              · rw [e, pk_us, pk_us, pk_un (by omega)]
                rw [e] at c1 c3
                exact ⟨c1, rfl, c3, hr3⟩
              · rw [pk_un e, pk_un (by omega), pk_un (by omega)]
                exact ⟨c1, c2, c3, c4⟩
            by_cases hq : ac (ix x2) = x3
            · rw [brc_t hq, brc_t hq, grd_t hv, grd_t (show isB 0 from Or.inl rfl), bnd_t rfl, grd_t (show isB 0 from Or.inl rfl), bnd_t rfl, cas_1, brc_t rfl, grd_t in01, grd_t hv16, grd_t (show isB 0 from Or.inl rfl)]
              exact ok2_ss ⟨rfl, hc, Or.inl rfl, fun _ => upd_b0 (out := out)⟩
            · rw [brc_f hq, brc_f hq, grd_t hv, grd_t (show isB 1 from Or.inr rfl), bnd_t rfl, grd_t (show isB 1 from Or.inr rfl), bnd_t rfl, cas_1, brc_f (show ¬ (1 : Int32) = 0 by decide), grd_t in01, grd_t hv16, grd_t (show isB 1 from Or.inr rfl)]
              exact ok2_ss ⟨rfl, hc, Or.inr rfl, fun _ => upd_b1 (out := out)⟩
        · rw [brc_f h3]
          exact bad _ (by unfold fX9_sort fX9_sort_L26; rw [bnd_t e1, brc_f (by decide), brc_f h0, brc_f h3])
    · have hn15 : (15 : Int32) < x2 := by rw [z_le] at h15; rw [z_lt]; omega
      rw [brc_t hn15]
      exact bad _ (by unfold fX9_sort; rw [bnd_t (pt_f (Or.inr h15)), brc_t rfl])
theorem cls_nI {x : Int32} (h : 0 ≤ x.toInt ∧ x.toInt ≤ 3) (h0 : ¬ x = 0) : ∃ c : Nat, 1 ≤ c ∧ c ≤ 3 ∧ x = nI c := by
  refine ⟨ix x, ?_, ?_, z_of h.1⟩
  · rw [z_eq] at h0
    simp only [Int32.reduceToInt] at h0
    rw [z_ix]; omega
  · rw [z_ix]; omega
theorem cls_0 {x : Int32} (h : 0 ≤ x.toInt ∧ x.toInt ≤ 3) : x ≤ 0 ↔ x = 0 := by
  rw [z_le, z_eq]
  simp only [Int32.reduceToInt]
  omega
theorem e_binary {N : Nat} {x1 x2 th lo : Int32} {ac bc on cl ec ev : Nat → Int32} {out : Nat → Int64} {r0l : Int32} {r0a r0k r0u r0v : Nat → Int32} {r1l : Int32} {r1a r1k r1u r1v : Nat → Int32} {r2l : Int32} {r2a r2k r2u r2v : Nat → Int32} (h1 : 1 ≤ N) (hN : N ≤ 40) (hx2 : isB x2) (hc : rCls bc ac cl) (hon : bol on) (hl : isB lo) (hr : rEvs N r0l r0a r0k r0u r0v r1l r1a r1k r1u r1v r2l r2a r2k r2u r2v ec ev) :
    ok2 (fL_binary N N N 1 (nI N) (nI N) (nI N) ac bc x1 x2 lo r0l r0a r0k r0u r0v r1l r1a r1k r1u r1v r2l r2a r2k r2u r2v on out) (fX10_binary (nI N) cl x1 x2 th lo on ec ev) (fun o o' => o.1 = o'.2.1 ∧ o.2.1 = o'.2.2.1 ∧ isB o.2.1 ∧ o'.2.2.2.1 = o.2.2.2.2.2.2.2.2.2.2.2.2.2.2.2.2.2.1 ∧ bol o.2.2.2.2.2.2.2.2.2.2.2.2.2.2.2.2.2.1 ∧ rEvs N o.2.2.1 o.2.2.2.1 o.2.2.2.2.1 o.2.2.2.2.2.1 o.2.2.2.2.2.2.1 o.2.2.2.2.2.2.2.1 o.2.2.2.2.2.2.2.2.1 o.2.2.2.2.2.2.2.2.2.1 o.2.2.2.2.2.2.2.2.2.2.1 o.2.2.2.2.2.2.2.2.2.2.2.1 o.2.2.2.2.2.2.2.2.2.2.2.2.1 o.2.2.2.2.2.2.2.2.2.2.2.2.2.1 o.2.2.2.2.2.2.2.2.2.2.2.2.2.2.1 o.2.2.2.2.2.2.2.2.2.2.2.2.2.2.2.1 o.2.2.2.2.2.2.2.2.2.2.2.2.2.2.2.2.1 o'.2.2.2.2.1 o'.2.2.2.2.2 ∧ isB o'.1 ∧ (o.1 = 0 → o.2.2.2.2.2.2.2.2.2.2.2.2.2.2.2.2.2.2 0 = (if o'.1 = 0 then (0 : Int64) else 1))) := by
  unfold fL_binary fX10_binary fX10_binary_L11
  by_cases hp : x1 < 0 ∨ ¬ x1 ≤ 15
  · have e : fX9_binary N N N (nI N) (nI N) (nI N) ac bc x1 x2 lo r0l r0a r0k r0u r0v r1l r1a r1k r1u r1v r2l r2a r2k r2u r2v on = some (.inl 1) := by
      unfold fX9_binary
      rw [bnd_t (pt_f hp), brc_t rfl]
    rw [e, bnd_t rfl, cas_0, grd_t rfl]
    have fin : ok2 (some ((1 : Int32), lo, r0l, r0a, r0k, r0u, r0v, r1l, r1a, r1k, r1u, r1v, r2l, r2a, r2k, r2u, r2v, on, out)) (fX10_binary_L16 (nI N) cl x1 x2 1 th lo on ec ev) (fun o o' => o.1 = o'.2.1 ∧ o.2.1 = o'.2.2.1 ∧ isB o.2.1 ∧ o'.2.2.2.1 = o.2.2.2.2.2.2.2.2.2.2.2.2.2.2.2.2.2.1 ∧ bol o.2.2.2.2.2.2.2.2.2.2.2.2.2.2.2.2.2.1 ∧ rEvs N o.2.2.1 o.2.2.2.1 o.2.2.2.2.1 o.2.2.2.2.2.1 o.2.2.2.2.2.2.1 o.2.2.2.2.2.2.2.1 o.2.2.2.2.2.2.2.2.1 o.2.2.2.2.2.2.2.2.2.1 o.2.2.2.2.2.2.2.2.2.2.1 o.2.2.2.2.2.2.2.2.2.2.2.1 o.2.2.2.2.2.2.2.2.2.2.2.2.1 o.2.2.2.2.2.2.2.2.2.2.2.2.2.1 o.2.2.2.2.2.2.2.2.2.2.2.2.2.2.1 o.2.2.2.2.2.2.2.2.2.2.2.2.2.2.2.1 o.2.2.2.2.2.2.2.2.2.2.2.2.2.2.2.2.1 o'.2.2.2.2.1 o'.2.2.2.2.2 ∧ isB o'.1 ∧ (o.1 = 0 → o.2.2.2.2.2.2.2.2.2.2.2.2.2.2.2.2.2.2 0 = (if o'.1 = 0 then (0 : Int64) else 1))) := by
      unfold fX10_binary_L16 fX10_binary_L36
      rw [brc_t (by decide)]
      exact ok2_ss ⟨rfl, rfl, hl, rfl, hon, hr, Or.inl rfl, fun z => absurd z (show ¬ (1 : Int32) = 0 by decide)⟩
    by_cases hx : x1 < 0
    · rw [brc_t hx]; exact fin
    · rw [brc_f hx, brc_f (hp.resolve_left hx)]; exact fin
  · have hx : ¬ x1 < 0 := fun q => hp (Or.inl q)
    have h15 : x1 ≤ 15 := Classical.byContradiction (fun q => hp (Or.inr q))
    obtain ⟨e1, hv, hv2, hi⟩ := pt_t hx h15
    rw [brc_f hx, brc_t h15]
    unfold fX9_binary fX7_changeBinary fX7_changeBinary_L15 fX10_binary_L16 fX10_binary_L36
    rw [bnd_t e1, brc_f (show ¬ (1 : Int32) = 0 by decide), grd_t hv, brc_f (show ¬ (0 : Int32) < 0 by decide), grd_t hv]
    have hon' : bol (upd on (ix x1) x2) := by
      intro i
      by_cases e : i = ix x1
      · rw [e, pk_us]; exact hx2
      · rw [pk_un e]; exact hon i
    by_cases hq : on (ix x1) = x2
    · rw [brc_t hq, brc_t hq, grd_t hv, grd_t hx2, grd_t (show isB 0 from Or.inl rfl), bnd_t rfl, brc_t rfl, bnd_t rfl, cas_1, brc_t rfl]
      unfold fL_binary_L16
      rw [grd_t in01, upd_self hq]
      exact ok2_ss ⟨rfl, rfl, hl, rfl, hon, hr, Or.inl rfl, fun _ => upd_b0 (out := out)⟩
    · rw [brc_f hq, brc_f hq, grd_t hv, grd_t hx2, grd_t (show isB 1 from Or.inr rfl), bnd_t rfl, brc_f (show ¬ (1 : Int32) = 0 by decide), grd_t hv, grd_t hx2, grd_t hv2, (hc (ix x1) hi).1]
      have ecl : fX7_classOf ac bc 0 x1 = some (bc (ix x1)) := by
        unfold fX7_classOf fX7_classOf_L19
        rw [brc_t rfl, grd_t hv]
      rw [bnd_t ecl]
      by_cases hz : bc (ix x1) = 0
      · rw [brc_t ((cls_0 (hc (ix x1) hi).2.2.1).mpr hz)]
        unfold fX9_binary_L55 fX10_binary_L75
        have ea : ∀ y : Int32, fX3_add N N N (nI N) (nI N) (nI N) (bc (ix x1)) 0 x1 y lo r0l r0a r0k r0u r0v r1l r1a r1k r1u r1v r2l r2a r2k r2u r2v = some (lo, r0l, r0a, r0k, r0u, r0v, r1l, r1a, r1k, r1u, r1v, r2l, r2a, r2k, r2u, r2v) := by
          intro y
          unfold fX3_add
          rw [brc_t hz]
        rw [bnd_t (ea 0), bnd_t (ea 1)]
        have fin : ok2 (bnd (some (.inr ((1 : Int32), lo, r0l, r0a, r0k, r0u, r0v, r1l, r1a, r1k, r1u, r1v, r2l, r2a, r2k, r2u, r2v, upd on (ix x1) x2) : Nat ⊕ (Int32 × Int32 × Int32 × (Nat → Int32) × (Nat → Int32) × (Nat → Int32) × (Nat → Int32) × Int32 × (Nat → Int32) × (Nat → Int32) × (Nat → Int32) × (Nat → Int32) × Int32 × (Nat → Int32) × (Nat → Int32) × (Nat → Int32) × (Nat → Int32) × (Nat → Int32)))) (fun o1 => cas o1 (fun kx => grd (kx = 1) (some ((1 : Int32), lo, r0l, r0a, r0k, r0u, r0v, r1l, r1a, r1k, r1u, r1v, r2l, r2a, r2k, r2u, r2v, on, out))) (fun u1 => brc (u1.1 = 0) (fL_binary_L16 N N N 1 (nI N) (nI N) (nI N) ac bc (0 : Int64) (0 : Int32) u1.2.1 u1.2.2.1 u1.2.2.2.1 u1.2.2.2.2.1 u1.2.2.2.2.2.1 u1.2.2.2.2.2.2.1 u1.2.2.2.2.2.2.2.1 u1.2.2.2.2.2.2.2.2.1 u1.2.2.2.2.2.2.2.2.2.1 u1.2.2.2.2.2.2.2.2.2.2.1 u1.2.2.2.2.2.2.2.2.2.2.2.1 u1.2.2.2.2.2.2.2.2.2.2.2.2.1 u1.2.2.2.2.2.2.2.2.2.2.2.2.2.1 u1.2.2.2.2.2.2.2.2.2.2.2.2.2.2.1 u1.2.2.2.2.2.2.2.2.2.2.2.2.2.2.2.1 u1.2.2.2.2.2.2.2.2.2.2.2.2.2.2.2.2.1 u1.2.2.2.2.2.2.2.2.2.2.2.2.2.2.2.2.2 out) (fL_binary_L16 N N N 1 (nI N) (nI N) (nI N) ac bc (1 : Int64) (0 : Int32) u1.2.1 u1.2.2.1 u1.2.2.2.1 u1.2.2.2.2.1 u1.2.2.2.2.2.1 u1.2.2.2.2.2.2.1 u1.2.2.2.2.2.2.2.1 u1.2.2.2.2.2.2.2.2.1 u1.2.2.2.2.2.2.2.2.2.1 u1.2.2.2.2.2.2.2.2.2.2.1 u1.2.2.2.2.2.2.2.2.2.2.2.1 u1.2.2.2.2.2.2.2.2.2.2.2.2.1 u1.2.2.2.2.2.2.2.2.2.2.2.2.2.1 u1.2.2.2.2.2.2.2.2.2.2.2.2.2.2.1 u1.2.2.2.2.2.2.2.2.2.2.2.2.2.2.2.1 u1.2.2.2.2.2.2.2.2.2.2.2.2.2.2.2.2.1 u1.2.2.2.2.2.2.2.2.2.2.2.2.2.2.2.2.2 out)))) (some ((1 : Int32), (0 : Int32), lo, upd on (ix x1) x2, ec, ev)) (fun o o' => o.1 = o'.2.1 ∧ o.2.1 = o'.2.2.1 ∧ isB o.2.1 ∧ o'.2.2.2.1 = o.2.2.2.2.2.2.2.2.2.2.2.2.2.2.2.2.2.1 ∧ bol o.2.2.2.2.2.2.2.2.2.2.2.2.2.2.2.2.2.1 ∧ rEvs N o.2.2.1 o.2.2.2.1 o.2.2.2.2.1 o.2.2.2.2.2.1 o.2.2.2.2.2.2.1 o.2.2.2.2.2.2.2.1 o.2.2.2.2.2.2.2.2.1 o.2.2.2.2.2.2.2.2.2.1 o.2.2.2.2.2.2.2.2.2.2.1 o.2.2.2.2.2.2.2.2.2.2.2.1 o.2.2.2.2.2.2.2.2.2.2.2.2.1 o.2.2.2.2.2.2.2.2.2.2.2.2.2.1 o.2.2.2.2.2.2.2.2.2.2.2.2.2.2.1 o.2.2.2.2.2.2.2.2.2.2.2.2.2.2.2.1 o.2.2.2.2.2.2.2.2.2.2.2.2.2.2.2.2.1 o'.2.2.2.2.1 o'.2.2.2.2.2 ∧ isB o'.1 ∧ (o.1 = 0 → o.2.2.2.2.2.2.2.2.2.2.2.2.2.2.2.2.2.2 0 = (if o'.1 = 0 then (0 : Int64) else 1))) := by
          rw [bnd_t rfl, cas_1, brc_f (show ¬ (1 : Int32) = 0 by decide)]
          unfold fL_binary_L16
          rw [grd_t in01]
          exact ok2_ss ⟨rfl, rfl, hl, rfl, hon', hr, Or.inr rfl, fun _ => upd_b1 (out := out)⟩
        by_cases hy : x2 = 0
        · rw [brc_t hy, grd_t hv]; exact fin
        · rw [brc_f hy, grd_t hv]; exact fin
      · rw [brc_f (fun q => hz ((cls_0 (hc (ix x1) hi).2.2.1).mp q)), grd_t hv2]
        obtain ⟨c, hc1, hc3, ec'⟩ := cls_nI (hc (ix x1) hi).2.2.1 hz
        rw [ec']
        unfold fX9_binary_L55 fX10_binary_L72 fX10_binary_L75
        have fin : ∀ y : Int32, ok2 (bnd (bnd (fX3_add N N N (nI N) (nI N) (nI N) (nI c) 0 x1 y lo r0l r0a r0k r0u r0v r1l r1a r1k r1u r1v r2l r2a r2k r2u r2v) (fun u1 => some (.inr ((1 : Int32), u1.1, u1.2.1, u1.2.2.1, u1.2.2.2.1, u1.2.2.2.2.1, u1.2.2.2.2.2.1, u1.2.2.2.2.2.2.1, u1.2.2.2.2.2.2.2.1, u1.2.2.2.2.2.2.2.2.1, u1.2.2.2.2.2.2.2.2.2.1, u1.2.2.2.2.2.2.2.2.2.2.1, u1.2.2.2.2.2.2.2.2.2.2.2.1, u1.2.2.2.2.2.2.2.2.2.2.2.2.1, u1.2.2.2.2.2.2.2.2.2.2.2.2.2.1, u1.2.2.2.2.2.2.2.2.2.2.2.2.2.2.1, u1.2.2.2.2.2.2.2.2.2.2.2.2.2.2.2, upd on (ix x1) x2) : Nat ⊕ (Int32 × Int32 × Int32 × (Nat → Int32) × (Nat → Int32) × (Nat → Int32) × (Nat → Int32) × Int32 × (Nat → Int32) × (Nat → Int32) × (Nat → Int32) × (Nat → Int32) × Int32 × (Nat → Int32) × (Nat → Int32) × (Nat → Int32) × (Nat → Int32) × (Nat → Int32))))) (fun o1 => cas o1 (fun kx => grd (kx = 1) (some ((1 : Int32), lo, r0l, r0a, r0k, r0u, r0v, r1l, r1a, r1k, r1u, r1v, r2l, r2a, r2k, r2u, r2v, on, out))) (fun u1 => brc (u1.1 = 0) (fL_binary_L16 N N N 1 (nI N) (nI N) (nI N) ac bc (0 : Int64) (0 : Int32) u1.2.1 u1.2.2.1 u1.2.2.2.1 u1.2.2.2.2.1 u1.2.2.2.2.2.1 u1.2.2.2.2.2.2.1 u1.2.2.2.2.2.2.2.1 u1.2.2.2.2.2.2.2.2.1 u1.2.2.2.2.2.2.2.2.2.1 u1.2.2.2.2.2.2.2.2.2.2.1 u1.2.2.2.2.2.2.2.2.2.2.2.1 u1.2.2.2.2.2.2.2.2.2.2.2.2.1 u1.2.2.2.2.2.2.2.2.2.2.2.2.2.1 u1.2.2.2.2.2.2.2.2.2.2.2.2.2.2.1 u1.2.2.2.2.2.2.2.2.2.2.2.2.2.2.2.1 u1.2.2.2.2.2.2.2.2.2.2.2.2.2.2.2.2.1 u1.2.2.2.2.2.2.2.2.2.2.2.2.2.2.2.2.2 out) (fL_binary_L16 N N N 1 (nI N) (nI N) (nI N) ac bc (1 : Int64) (0 : Int32) u1.2.1 u1.2.2.1 u1.2.2.2.1 u1.2.2.2.2.1 u1.2.2.2.2.2.1 u1.2.2.2.2.2.2.1 u1.2.2.2.2.2.2.2.1 u1.2.2.2.2.2.2.2.2.1 u1.2.2.2.2.2.2.2.2.2.1 u1.2.2.2.2.2.2.2.2.2.2.1 u1.2.2.2.2.2.2.2.2.2.2.2.1 u1.2.2.2.2.2.2.2.2.2.2.2.2.1 u1.2.2.2.2.2.2.2.2.2.2.2.2.2.1 u1.2.2.2.2.2.2.2.2.2.2.2.2.2.2.1 u1.2.2.2.2.2.2.2.2.2.2.2.2.2.2.2.1 u1.2.2.2.2.2.2.2.2.2.2.2.2.2.2.2.2.1 u1.2.2.2.2.2.2.2.2.2.2.2.2.2.2.2.2.2 out)))) (bnd (fX10_make (nI N) (nI c) 0 x1 y lo ec ev) (fun u1 => some ((1 : Int32), (0 : Int32), u1.1, upd on (ix x1) x2, u1.2.1, u1.2.2))) (fun o o' => o.1 = o'.2.1 ∧ o.2.1 = o'.2.2.1 ∧ isB o.2.1 ∧ o'.2.2.2.1 = o.2.2.2.2.2.2.2.2.2.2.2.2.2.2.2.2.2.1 ∧ bol o.2.2.2.2.2.2.2.2.2.2.2.2.2.2.2.2.2.1 ∧ rEvs N o.2.2.1 o.2.2.2.1 o.2.2.2.2.1 o.2.2.2.2.2.1 o.2.2.2.2.2.2.1 o.2.2.2.2.2.2.2.1 o.2.2.2.2.2.2.2.2.1 o.2.2.2.2.2.2.2.2.2.1 o.2.2.2.2.2.2.2.2.2.2.1 o.2.2.2.2.2.2.2.2.2.2.2.1 o.2.2.2.2.2.2.2.2.2.2.2.2.1 o.2.2.2.2.2.2.2.2.2.2.2.2.2.1 o.2.2.2.2.2.2.2.2.2.2.2.2.2.2.1 o.2.2.2.2.2.2.2.2.2.2.2.2.2.2.2.1 o.2.2.2.2.2.2.2.2.2.2.2.2.2.2.2.2.1 o'.2.2.2.2.1 o'.2.2.2.2.2 ∧ isB o'.1 ∧ (o.1 = 0 → o.2.2.2.2.2.2.2.2.2.2.2.2.2.2.2.2.2.2 0 = (if o'.1 = 0 then (0 : Int64) else 1))) := by
          intro y
          obtain ⟨p, q, ep, eq, g1, g2, g3⟩ := r_add (x2 := 0) (x3 := x1) (x4 := y) (lo := lo) h1 hN hc1 hc3 (Or.inl rfl) hr
          rw [bnd_t ep, bnd_t eq, bnd_t rfl, cas_1, brc_f (show ¬ (1 : Int32) = 0 by decide)]
          unfold fL_binary_L16
          rw [grd_t in01]
          exact ok2_ss ⟨rfl, g1, g2 hl, rfl, hon', g3, Or.inr rfl, fun _ => upd_b1 (out := out)⟩
        by_cases hy : x2 = 0
        · rw [brc_t hy, brc_t hy, grd_t hv]; exact fin 0
        · rw [brc_f hy, brc_f hy, grd_t hv]; exact fin 1
theorem e_analog {N : Nat} {x1 x2 th lo : Int32} {ac bc ba re va cl ec ev : Nat → Int32} {out : Nat → Int64} {r0l : Int32} {r0a r0k r0u r0v : Nat → Int32} {r1l : Int32} {r1a r1k r1u r1v : Nat → Int32} {r2l : Int32} {r2a r2k r2u r2v : Nat → Int32} (h1 : 1 ≤ N) (hN : N ≤ 40) (hc : rCls bc ac cl) (hre : rng re) (hl : isB lo) (hr : rEvs N r0l r0a r0k r0u r0v r1l r1a r1k r1u r1v r2l r2a r2k r2u r2v ec ev) :
    ok2 (fL_analog N N N 1 (nI N) (nI N) (nI N) ac ba bc x1 x2 lo r0l r0a r0k r0u r0v r1l r1a r1k r1u r1v r2l r2a r2k r2u r2v re va out) (fX10_analog (nI N) ba cl x1 x2 th lo va ec ev re) (fun o o' => o.1 = o'.2.1 ∧ o.2.1 = o'.2.2.1 ∧ isB o.2.1 ∧ o'.2.2.2.1 = o.2.2.2.2.2.2.2.2.2.2.2.2.2.2.2.2.2.2.1 ∧ o'.2.2.2.2.2.2 = o.2.2.2.2.2.2.2.2.2.2.2.2.2.2.2.2.2.1 ∧ rng o.2.2.2.2.2.2.2.2.2.2.2.2.2.2.2.2.2.1 ∧ rEvs N o.2.2.1 o.2.2.2.1 o.2.2.2.2.1 o.2.2.2.2.2.1 o.2.2.2.2.2.2.1 o.2.2.2.2.2.2.2.1 o.2.2.2.2.2.2.2.2.1 o.2.2.2.2.2.2.2.2.2.1 o.2.2.2.2.2.2.2.2.2.2.1 o.2.2.2.2.2.2.2.2.2.2.2.1 o.2.2.2.2.2.2.2.2.2.2.2.2.1 o.2.2.2.2.2.2.2.2.2.2.2.2.2.1 o.2.2.2.2.2.2.2.2.2.2.2.2.2.2.1 o.2.2.2.2.2.2.2.2.2.2.2.2.2.2.2.1 o.2.2.2.2.2.2.2.2.2.2.2.2.2.2.2.2.1 o'.2.2.2.2.1 o'.2.2.2.2.2.1 ∧ isB o'.1 ∧ (o.1 = 0 → o.2.2.2.2.2.2.2.2.2.2.2.2.2.2.2.2.2.2.2 0 = (if o'.1 = 0 then (0 : Int64) else 1))) := by
  unfold fL_analog fX10_analog fX10_analog_L11 fX10_analog_L29
  by_cases hp : x1 < 0 ∨ ¬ x1 ≤ 15
  · have e : fX9_analog N N N (nI N) (nI N) (nI N) ac ba bc x1 x2 lo r0l r0a r0k r0u r0v r1l r1a r1k r1u r1v r2l r2a r2k r2u r2v re va = some (.inl 1) := by
      unfold fX9_analog
      rw [bnd_t (pt_f hp), brc_t rfl]
    rw [e, bnd_t rfl, cas_0, brc_t rfl]
    have fin : ok2 (some ((1 : Int32), lo, r0l, r0a, r0k, r0u, r0v, r1l, r1a, r1k, r1u, r1v, r2l, r2a, r2k, r2u, r2v, re, va, out)) (fX10_analog_L34 (nI N) ba cl x1 x2 1 th lo va ec ev re) (fun o o' => o.1 = o'.2.1 ∧ o.2.1 = o'.2.2.1 ∧ isB o.2.1 ∧ o'.2.2.2.1 = o.2.2.2.2.2.2.2.2.2.2.2.2.2.2.2.2.2.2.1 ∧ o'.2.2.2.2.2.2 = o.2.2.2.2.2.2.2.2.2.2.2.2.2.2.2.2.2.1 ∧ rng o.2.2.2.2.2.2.2.2.2.2.2.2.2.2.2.2.2.1 ∧ rEvs N o.2.2.1 o.2.2.2.1 o.2.2.2.2.1 o.2.2.2.2.2.1 o.2.2.2.2.2.2.1 o.2.2.2.2.2.2.2.1 o.2.2.2.2.2.2.2.2.1 o.2.2.2.2.2.2.2.2.2.1 o.2.2.2.2.2.2.2.2.2.2.1 o.2.2.2.2.2.2.2.2.2.2.2.1 o.2.2.2.2.2.2.2.2.2.2.2.2.1 o.2.2.2.2.2.2.2.2.2.2.2.2.2.1 o.2.2.2.2.2.2.2.2.2.2.2.2.2.2.1 o.2.2.2.2.2.2.2.2.2.2.2.2.2.2.2.1 o.2.2.2.2.2.2.2.2.2.2.2.2.2.2.2.2.1 o'.2.2.2.2.1 o'.2.2.2.2.2.1 ∧ isB o'.1 ∧ (o.1 = 0 → o.2.2.2.2.2.2.2.2.2.2.2.2.2.2.2.2.2.2.2 0 = (if o'.1 = 0 then (0 : Int64) else 1))) := by
      unfold fX10_analog_L34
      rw [brc_f (by decide)]
      exact ok2_ss ⟨rfl, rfl, hl, rfl, rfl, hre, hr, Or.inl rfl, fun z => absurd z (show ¬ (1 : Int32) = 0 by decide)⟩
    by_cases hx : x1 < 0
    · rw [brc_t hx]; exact fin
    · rw [brc_f hx, brc_f (hp.resolve_left hx)]; exact fin
  · have hx : ¬ x1 < 0 := fun q => hp (Or.inl q)
    have h15 : x1 ≤ 15 := Classical.byContradiction (fun q => hp (Or.inr q))
    obtain ⟨e1, hv, hv2, hi⟩ := pt_t hx h15
    obtain ⟨e16, hv16⟩ := ix16 hx h15
    rw [brc_f hx, brc_t h15]
    have bad : ∀ q : Option (Nat ⊕ (Int32 × Int32 × Int32 × (Nat → Int32) × (Nat → Int32) × (Nat → Int32) × (Nat → Int32) × Int32 × (Nat → Int32) × (Nat → Int32) × (Nat → Int32) × (Nat → Int32) × Int32 × (Nat → Int32) × (Nat → Int32) × (Nat → Int32) × (Nat → Int32) × (Nat → Int32) × (Nat → Int32))), q = some (.inl 0) → ok2 (bnd q (fun o1 => cas o1 (fun kx => brc (kx = 1) (some ((1 : Int32), lo, r0l, r0a, r0k, r0u, r0v, r1l, r1a, r1k, r1u, r1v, r2l, r2a, r2k, r2u, r2v, re, va, out)) (grd (kx = 0) (some ((2 : Int32), lo, r0l, r0a, r0k, r0u, r0v, r1l, r1a, r1k, r1u, r1v, r2l, r2a, r2k, r2u, r2v, re, va, out)))) (fun u1 => brc (u1.1 = 0) (fL_analog_L16 N N N 1 (nI N) (nI N) (nI N) ac ba bc (0 : Int64) (0 : Int32) u1.2.1 u1.2.2.1 u1.2.2.2.1 u1.2.2.2.2.1 u1.2.2.2.2.2.1 u1.2.2.2.2.2.2.1 u1.2.2.2.2.2.2.2.1 u1.2.2.2.2.2.2.2.2.1 u1.2.2.2.2.2.2.2.2.2.1 u1.2.2.2.2.2.2.2.2.2.2.1 u1.2.2.2.2.2.2.2.2.2.2.2.1 u1.2.2.2.2.2.2.2.2.2.2.2.2.1 u1.2.2.2.2.2.2.2.2.2.2.2.2.2.1 u1.2.2.2.2.2.2.2.2.2.2.2.2.2.2.1 u1.2.2.2.2.2.2.2.2.2.2.2.2.2.2.2.1 u1.2.2.2.2.2.2.2.2.2.2.2.2.2.2.2.2.1 u1.2.2.2.2.2.2.2.2.2.2.2.2.2.2.2.2.2.1 u1.2.2.2.2.2.2.2.2.2.2.2.2.2.2.2.2.2.2 out) (fL_analog_L16 N N N 1 (nI N) (nI N) (nI N) ac ba bc (1 : Int64) (0 : Int32) u1.2.1 u1.2.2.1 u1.2.2.2.1 u1.2.2.2.2.1 u1.2.2.2.2.2.1 u1.2.2.2.2.2.2.1 u1.2.2.2.2.2.2.2.1 u1.2.2.2.2.2.2.2.2.1 u1.2.2.2.2.2.2.2.2.2.1 u1.2.2.2.2.2.2.2.2.2.2.1 u1.2.2.2.2.2.2.2.2.2.2.2.1 u1.2.2.2.2.2.2.2.2.2.2.2.2.1 u1.2.2.2.2.2.2.2.2.2.2.2.2.2.1 u1.2.2.2.2.2.2.2.2.2.2.2.2.2.2.1 u1.2.2.2.2.2.2.2.2.2.2.2.2.2.2.2.1 u1.2.2.2.2.2.2.2.2.2.2.2.2.2.2.2.2.1 u1.2.2.2.2.2.2.2.2.2.2.2.2.2.2.2.2.2.1 u1.2.2.2.2.2.2.2.2.2.2.2.2.2.2.2.2.2.2 out)))) (fX10_analog_L34 (nI N) ba cl x1 x2 2 th lo va ec ev re) (fun o o' => o.1 = o'.2.1 ∧ o.2.1 = o'.2.2.1 ∧ isB o.2.1 ∧ o'.2.2.2.1 = o.2.2.2.2.2.2.2.2.2.2.2.2.2.2.2.2.2.2.1 ∧ o'.2.2.2.2.2.2 = o.2.2.2.2.2.2.2.2.2.2.2.2.2.2.2.2.2.1 ∧ rng o.2.2.2.2.2.2.2.2.2.2.2.2.2.2.2.2.2.1 ∧ rEvs N o.2.2.1 o.2.2.2.1 o.2.2.2.2.1 o.2.2.2.2.2.1 o.2.2.2.2.2.2.1 o.2.2.2.2.2.2.2.1 o.2.2.2.2.2.2.2.2.1 o.2.2.2.2.2.2.2.2.2.1 o.2.2.2.2.2.2.2.2.2.2.1 o.2.2.2.2.2.2.2.2.2.2.2.1 o.2.2.2.2.2.2.2.2.2.2.2.2.1 o.2.2.2.2.2.2.2.2.2.2.2.2.2.1 o.2.2.2.2.2.2.2.2.2.2.2.2.2.2.1 o.2.2.2.2.2.2.2.2.2.2.2.2.2.2.2.1 o.2.2.2.2.2.2.2.2.2.2.2.2.2.2.2.2.1 o'.2.2.2.2.1 o'.2.2.2.2.2.1 ∧ isB o'.1 ∧ (o.1 = 0 → o.2.2.2.2.2.2.2.2.2.2.2.2.2.2.2.2.2.2.2 0 = (if o'.1 = 0 then (0 : Int64) else 1))) := by
      intro q hq
      unfold fX10_analog_L34
      rw [hq, bnd_t rfl, cas_0, brc_f (by decide), grd_t rfl, brc_f (by decide)]
      exact ok2_ss ⟨rfl, rfl, hl, rfl, rfl, hre, hr, Or.inl rfl, fun z => absurd z (show ¬ (2 : Int32) = 0 by decide)⟩
    by_cases hlo : x2 < -32768
    · rw [brc_t hlo]
      exact bad _ (by unfold fX9_analog fX9_analog_L31; rw [bnd_t e1, brc_f (by decide), brc_t hlo])
    · rw [brc_f hlo]
      by_cases hhi : x2 ≤ 32767
      · have hx2 : -32768 ≤ x2.toInt ∧ x2.toInt ≤ 32767 := by
          rw [z_lt] at hlo
          rw [z_le] at hhi
          rw [show (-32768 : Int32).toInt = -32768 from rfl] at hlo
          rw [show (32767 : Int32).toInt = 32767 from rfl] at hhi
          omega
        rw [brc_t hhi]
        have hk := hre (ix x1)
        have hre' : rng (upd re (ix x1) x2) := by
          intro i
          by_cases e : i = ix x1
          · rw [e, pk_us]; exact hx2
          · rw [pk_un e]; exact hre i
        -- how far the value is
        obtain ⟨far, hf1, hf2⟩ : ∃ far : Int32, (if (0 : Int32) ≤ (x2 - re (ix x1)) then (x2 - re (ix x1)) else (0 : Int32) - (x2 - re (ix x1))) = far ∧ fX10_analog_L34 (nI N) ba cl x1 x2 0 th lo va ec ev re = fX10_analog_L82 (nI N) ba cl x1 x2 far 0 lo (upd va (ix x1) x2) ec ev re := by
          unfold fX10_analog_L34
          have e0 : (0 : Int32).toInt = 0 := rfl
          have ed : (x2 - re (ix x1)).toInt = x2.toInt - (re (ix x1)).toInt := by rw [Int32.toInt_sub, z_bm]; omega
          by_cases hle : re (ix x1) ≤ x2
          · refine ⟨_, rfl, ?_⟩
            rw [z_le] at hle
            rw [brc_t (by decide), grd_t hv, grd_t hv, brc_t (by rw [z_le]; exact hle), grd_t hv, if_pos (by rw [z_le, ed, e0]; omega)]
          · refine ⟨_, rfl, ?_⟩
            have hle' : ¬ (re (ix x1)).toInt ≤ x2.toInt := fun q => hle (by rw [z_le]; exact q)
            have es : (0 : Int32) - (x2 - re (ix x1)) = re (ix x1) - x2 := by
              rw [z_eq, Int32.toInt_sub, ed, Int32.toInt_sub, e0, z_bm, z_bm]
              omega
            rw [brc_t (by decide), grd_t hv, grd_t hv, brc_f hle, grd_t hv, if_neg (by rw [z_le, ed, e0]; omega), es]
        rw [hf2]
        unfold fX9_analog fX7_changeAnalog fX7_changeAnalog_L32 fX7_changeAnalog_L46 fX10_analog_L82 fX10_analog_L109 fX10_analog_L110 fX10_analog_L140
        rw [bnd_t e1, brc_f (show ¬ (1 : Int32) = 0 by decide), brc_f hlo, brc_t hhi, grd_t hv, grd_t hv, grd_t hv, hf1, grd_t hv16, e16, (hc (ix x1) hi).2.1]
        have none_ : ok2 (bnd (bnd (some ((0 : Int32), re, upd va (ix x1) x2)) (fun u2 => brc (u2.1 = 0) (some (.inr ((0 : Int32), lo, r0l, r0a, r0k, r0u, r0v, r1l, r1a, r1k, r1u, r1v, r2l, r2a, r2k, r2u, r2v, u2.2.1, u2.2.2) : Nat ⊕ (Int32 × Int32 × Int32 × (Nat → Int32) × (Nat → Int32) × (Nat → Int32) × (Nat → Int32) × Int32 × (Nat → Int32) × (Nat → Int32) × (Nat → Int32) × (Nat → Int32) × Int32 × (Nat → Int32) × (Nat → Int32) × (Nat → Int32) × (Nat → Int32) × (Nat → Int32) × (Nat → Int32)))) (bnd (fX7_classOf ac bc 1 x1) (fun u3 => bnd (fX3_add N N N (nI N) (nI N) (nI N) u3 1 x1 x2 lo r0l r0a r0k r0u r0v r1l r1a r1k r1u r1v r2l r2a r2k r2u r2v) (fun u4 => some (.inr ((1 : Int32), u4.1, u4.2.1, u4.2.2.1, u4.2.2.2.1, u4.2.2.2.2.1, u4.2.2.2.2.2.1, u4.2.2.2.2.2.2.1, u4.2.2.2.2.2.2.2.1, u4.2.2.2.2.2.2.2.2.1, u4.2.2.2.2.2.2.2.2.2.1, u4.2.2.2.2.2.2.2.2.2.2.1, u4.2.2.2.2.2.2.2.2.2.2.2.1, u4.2.2.2.2.2.2.2.2.2.2.2.2.1, u4.2.2.2.2.2.2.2.2.2.2.2.2.2.1, u4.2.2.2.2.2.2.2.2.2.2.2.2.2.2.1, u4.2.2.2.2.2.2.2.2.2.2.2.2.2.2.2, u2.2.1, u2.2.2) : Nat ⊕ (Int32 × Int32 × Int32 × (Nat → Int32) × (Nat → Int32) × (Nat → Int32) × (Nat → Int32) × Int32 × (Nat → Int32) × (Nat → Int32) × (Nat → Int32) × (Nat → Int32) × Int32 × (Nat → Int32) × (Nat → Int32) × (Nat → Int32) × (Nat → Int32) × (Nat → Int32) × (Nat → Int32)))))))) (fun o1 => cas o1 (fun kx => brc (kx = 1) (some ((1 : Int32), lo, r0l, r0a, r0k, r0u, r0v, r1l, r1a, r1k, r1u, r1v, r2l, r2a, r2k, r2u, r2v, re, va, out)) (grd (kx = 0) (some ((2 : Int32), lo, r0l, r0a, r0k, r0u, r0v, r1l, r1a, r1k, r1u, r1v, r2l, r2a, r2k, r2u, r2v, re, va, out)))) (fun u1 => brc (u1.1 = 0) (fL_analog_L16 N N N 1 (nI N) (nI N) (nI N) ac ba bc (0 : Int64) (0 : Int32) u1.2.1 u1.2.2.1 u1.2.2.2.1 u1.2.2.2.2.1 u1.2.2.2.2.2.1 u1.2.2.2.2.2.2.1 u1.2.2.2.2.2.2.2.1 u1.2.2.2.2.2.2.2.2.1 u1.2.2.2.2.2.2.2.2.2.1 u1.2.2.2.2.2.2.2.2.2.2.1 u1.2.2.2.2.2.2.2.2.2.2.2.1 u1.2.2.2.2.2.2.2.2.2.2.2.2.1 u1.2.2.2.2.2.2.2.2.2.2.2.2.2.1 u1.2.2.2.2.2.2.2.2.2.2.2.2.2.2.1 u1.2.2.2.2.2.2.2.2.2.2.2.2.2.2.2.1 u1.2.2.2.2.2.2.2.2.2.2.2.2.2.2.2.2.1 u1.2.2.2.2.2.2.2.2.2.2.2.2.2.2.2.2.2.1 u1.2.2.2.2.2.2.2.2.2.2.2.2.2.2.2.2.2.2 out) (fL_analog_L16 N N N 1 (nI N) (nI N) (nI N) ac ba bc (1 : Int64) (0 : Int32) u1.2.1 u1.2.2.1 u1.2.2.2.1 u1.2.2.2.2.1 u1.2.2.2.2.2.1 u1.2.2.2.2.2.2.1 u1.2.2.2.2.2.2.2.1 u1.2.2.2.2.2.2.2.2.1 u1.2.2.2.2.2.2.2.2.2.1 u1.2.2.2.2.2.2.2.2.2.2.1 u1.2.2.2.2.2.2.2.2.2.2.2.1 u1.2.2.2.2.2.2.2.2.2.2.2.2.1 u1.2.2.2.2.2.2.2.2.2.2.2.2.2.1 u1.2.2.2.2.2.2.2.2.2.2.2.2.2.2.1 u1.2.2.2.2.2.2.2.2.2.2.2.2.2.2.2.1 u1.2.2.2.2.2.2.2.2.2.2.2.2.2.2.2.2.1 u1.2.2.2.2.2.2.2.2.2.2.2.2.2.2.2.2.2.1 u1.2.2.2.2.2.2.2.2.2.2.2.2.2.2.2.2.2.2 out)))) (brc ((0 : Int32) = 0) (grd (isB 0) (some ((0 : Int32), (0 : Int32), lo, upd va (ix x1) x2, ec, ev, re))) (grd (vp_in x1 16) (grd (vp_in ((16 : Int32) + x1) 32) (bnd (fX10_make (nI N) (ac (ix x1)) 1 x1 x2 lo ec ev) (fun u3 => grd (isB 0) (some ((0 : Int32), (0 : Int32), u3.1, upd va (ix x1) x2, u3.2.1, u3.2.2, upd re (ix x1) x2))))))) (fun o o' => o.1 = o'.2.1 ∧ o.2.1 = o'.2.2.1 ∧ isB o.2.1 ∧ o'.2.2.2.1 = o.2.2.2.2.2.2.2.2.2.2.2.2.2.2.2.2.2.2.1 ∧ o'.2.2.2.2.2.2 = o.2.2.2.2.2.2.2.2.2.2.2.2.2.2.2.2.2.1 ∧ rng o.2.2.2.2.2.2.2.2.2.2.2.2.2.2.2.2.2.1 ∧ rEvs N o.2.2.1 o.2.2.2.1 o.2.2.2.2.1 o.2.2.2.2.2.1 o.2.2.2.2.2.2.1 o.2.2.2.2.2.2.2.1 o.2.2.2.2.2.2.2.2.1 o.2.2.2.2.2.2.2.2.2.1 o.2.2.2.2.2.2.2.2.2.2.1 o.2.2.2.2.2.2.2.2.2.2.2.1 o.2.2.2.2.2.2.2.2.2.2.2.2.1 o.2.2.2.2.2.2.2.2.2.2.2.2.2.1 o.2.2.2.2.2.2.2.2.2.2.2.2.2.2.1 o.2.2.2.2.2.2.2.2.2.2.2.2.2.2.2.1 o.2.2.2.2.2.2.2.2.2.2.2.2.2.2.2.2.1 o'.2.2.2.2.1 o'.2.2.2.2.2.1 ∧ isB o'.1 ∧ (o.1 = 0 → o.2.2.2.2.2.2.2.2.2.2.2.2.2.2.2.2.2.2.2 0 = (if o'.1 = 0 then (0 : Int64) else 1))) := by
          rw [bnd_t rfl, brc_t rfl, bnd_t rfl, cas_1, brc_t rfl, brc_t rfl, grd_t (show isB 0 from Or.inl rfl)]
          unfold fL_analog_L16
          rw [grd_t in01]
          exact ok2_ss ⟨rfl, rfl, hl, rfl, rfl, hre, hr, Or.inl rfl, fun _ => upd_b0 (out := out)⟩
        by_cases hz : ac (ix x1) = 0
        · rw [brc_t ((cls_0 (hc (ix x1) hi).2.2.2).mpr hz)]
          by_cases hfb : far ≤ ba (ix x1)
          · rw [brc_t hfb, grd_t hv, brc_t hz]; exact none_
          · rw [brc_f hfb, grd_t hv, brc_t hz]; exact none_
        · have hz' : ¬ ac (ix x1) ≤ 0 := fun q => hz ((cls_0 (hc (ix x1) hi).2.2.2).mp q)
          by_cases hfb : far ≤ ba (ix x1)
          · rw [brc_t hfb, grd_t hv, brc_f hz, brc_t (show (0 : Int32) = 0 from rfl), brc_f hz', grd_t hv, brc_t hfb]; exact none_
          · rw [brc_f hfb, grd_t hv, brc_f hz, brc_f (show ¬ (1 : Int32) = 0 by decide), grd_t hv, bnd_t rfl, brc_f (show ¬ (1 : Int32) = 0 by decide), brc_f hz', grd_t hv, brc_f hfb, brc_f (show ¬ (1 : Int32) = 0 by decide), grd_t hv, grd_t hv16]
            have ecl : fX7_classOf ac bc 1 x1 = some (ac (ix x1)) := by
              unfold fX7_classOf fX7_classOf_L19
              rw [brc_f (by decide), grd_t hv]
            obtain ⟨c, hc1, hc3, ec'⟩ := cls_nI (hc (ix x1) hi).2.2.2 hz
            obtain ⟨p, q, ep, eq, g1, g2, g3⟩ := r_add (x2 := 1) (x3 := x1) (x4 := x2) (lo := lo) h1 hN hc1 hc3 (Or.inr rfl) hr
            rw [bnd_t ecl, ec', bnd_t ep, bnd_t eq, bnd_t rfl, cas_1, brc_f (show ¬ (1 : Int32) = 0 by decide), grd_t (show isB 1 from Or.inr rfl)]
            unfold fL_analog_L16
            rw [grd_t in01]
            exact ok2_ss ⟨rfl, g1, g2 hl, rfl, rfl, hre', g3, Or.inr rfl, fun _ => upd_b1 (out := out)⟩
      · rw [brc_f hhi]
        exact bad _ (by unfold fX9_analog fX9_analog_L31; rw [bnd_t e1, brc_f (by decide), brc_f hlo, brc_f hhi])
