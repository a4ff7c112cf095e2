/-! reading, on both sides -/
theorem r_read_loop {N n n0 n1 n2 : Nat} {k0 u0 v0 k1 u1 v1 k2 u2 v2 on vs p an bi ec f : Nat → Int32} (hN : N ≤ 40) (h0 : n0 ≤ N) (h1 : n1 ≤ N) (h2 : n2 ≤ N) (hn : n ≤ 249) (hp : ∀ i, i < n → p i = f i) (hon : bol on) (e1 : ec 1 = nI n0) (e2 : ec 2 = nI n1) (e3 : ec 3 = nI n2) :
    ∀ (j a b at_ s : Nat) (wb wa we cfl mfl : Int32) (row a0 a1 a2 ans ev : Nat → Int32), n ≤ at_ + 3 * j → 2 ≤ at_ → at_ < 300 → s ≤ 249 → isB wb → isB wa → isB we → rEv 1 n0 a0 k0 u0 v0 ev → rEv 2 n1 a1 k1 u1 v1 ev → rEv 3 n2 a2 k2 u2 v2 ev →
    ok2 (fX9_read_L2 N N N 249 (nI n0) k0 u0 v0 (nI n1) k1 u1 v1 (nI n2) k2 u2 v2 on vs p (a + j + 1) (nI n) (nI at_) (nI (s + 1)) cfl wb wa we row a0 a1 a2) (fX10_read_L2 an bi ec f (b + j + 1) (nI n) (nI at_) (nI s) mfl we wb wa ans ev) (fun o o' => (∃ s', s' ≤ 249 ∧ o.1 = nI (s' + 1) ∧ o'.1 = nI s') ∧ o.2.2.2.2.1 = o'.2.2.1 ∧ isB o.2.2.2.2.1 ∧ rEv 1 n0 o.2.2.2.2.2.2.1 k0 u0 v0 o'.2.2.2.2.2.2 ∧ rEv 2 n1 o.2.2.2.2.2.2.2.1 k1 u1 v1 o'.2.2.2.2.2.2 ∧ rEv 3 n2 o.2.2.2.2.2.2.2.2 k2 u2 v2 o'.2.2.2.2.2.2) := by
  intro j
  induction j with
  | zero =>
    intro a b at_ s wb wa we cfl mfl row a0 a1 a2 ans ev hj h2' h3' hs hb1 hb2 hb3 r0 r1 r2
    have hle : nI n ≤ nI at_ := nI_le (by omega) (by omega)
    rw [fX9_read_L2_s, fX10_read_L2_s, brc_t hle, brc_t hle]
    exact ok2_ss ⟨⟨s, hs, rfl, rfl⟩, rfl, hb3, r0, r1, r2⟩
  | succ j ih =>
    intro a b at_ s wb wa we cfl mfl row a0 a1 a2 ans ev hj h2' h3' hs hb1 hb2 hb3 r0 r1 r2
    rw [show a + (j + 1) + 1 = (a + j + 1) + 1 by omega, show b + (j + 1) + 1 = (b + j + 1) + 1 by omega, fX9_read_L2_s, fX10_read_L2_s]
    by_cases hle : n ≤ at_
    · have hle : nI n ≤ nI at_ := nI_le hle (by omega)
      rw [brc_t hle, brc_t hle]
      exact ok2_ss ⟨⟨s, hs, rfl, rfl⟩, rfl, hb3, r0, r1, r2⟩
    · have hle' : ¬ nI n ≤ nI at_ := nI_ge (by omega) (by omega)
      rw [brc_f hle', brc_f hle', show (3 : Int32) = nI 3 from rfl, show (2 : Int32) = nI 2 from rfl, nI_1, nI_add, nI_add]
      unfold fX9_read_L24 fX10_read_L27 fX0_addFault
      by_cases h3 : n < at_ + 3
      · have h3 : nI n < nI (at_ + 3) := nI_lt h3 (by omega)
        rw [brc_t h3, brc_t h3, bnd_t rfl]
        exact ok2_ss ⟨⟨s, hs, rfl, rfl⟩, rfl, hb3, r0, r1, r2⟩
      · have h3' : ¬ nI n < nI (at_ + 3) := nI_nlt (by omega) (by omega)
        rw [brc_f h3', brc_f h3', grd_t (show vp_in (nI (at_ + 2)) 249 from vp_in_nI (by omega) (by decide)), grd_t (show vp_in (nI (at_ + 2)) 600 from vp_in_nI (by omega) (by decide)), grd_t (show vp_in (nI at_) 249 from vp_in_nI (by omega) (by decide)), grd_t (show vp_in (nI at_) 600 from vp_in_nI (by omega) (by decide)), grd_t (show vp_in (nI (at_ + 1)) 249 from vp_in_nI (by omega) (by decide)), grd_t (show vp_in (nI (at_ + 1)) 600 from vp_in_nI (by omega) (by decide)), ix_nI (by omega), ix_nI (by omega), ix_nI (by omega), hp (at_ + 2) (by omega), hp (at_ + 1) (by omega), hp at_ (by omega)]
        by_cases h6 : f (at_ + 2) = 6
        · rw [brc_t h6, brc_t h6]
          generalize hg : f at_ = g
          generalize hv : f (at_ + 1) = v
          have nx : ∀ (s1 : Nat) (wb wa we cfl mfl l1 l2 : Int32) (row a0 a1 a2 ans ev : Nat → Int32), l1 = nI (s1 + 1) → l2 = nI s1 → s1 ≤ 249 → isB wb → isB wa → isB we → rEv 1 n0 a0 k0 u0 v0 ev → rEv 2 n1 a1 k1 u1 v1 ev → rEv 3 n2 a2 k2 u2 v2 ev → ok2 (fX9_read_L2 N N N 249 (nI n0) k0 u0 v0 (nI n1) k1 u1 v1 (nI n2) k2 u2 v2 on vs p (a + j + 1) (nI n) (nI (at_ + 3)) l1 cfl wb wa we row a0 a1 a2) (fX10_read_L203 an bi ec f (fX10_read_L2 an bi ec f (b + j + 1)) (nI n) (nI at_) l2 mfl we wb wa ans ev) (fun o o' => (∃ s', s' ≤ 249 ∧ o.1 = nI (s' + 1) ∧ o'.1 = nI s') ∧ o.2.2.2.2.1 = o'.2.2.1 ∧ isB o.2.2.2.2.1 ∧ rEv 1 n0 o.2.2.2.2.2.2.1 k0 u0 v0 o'.2.2.2.2.2.2 ∧ rEv 2 n1 o.2.2.2.2.2.2.2.1 k1 u1 v1 o'.2.2.2.2.2.2 ∧ rEv 3 n2 o.2.2.2.2.2.2.2.2 k2 u2 v2 o'.2.2.2.2.2.2) := by
            intro s1 wb wa we cfl mfl l1 l2 row a0 a1 a2 ans ev q1 q2 q3 q4 q5 q6 q7 q8 q9
            unfold fX10_read_L203
            rw [q1, q2, show (3 : Int32) = nI 3 from rfl, nI_add]
            exact ih a b (at_ + 3) s1 wb wa we cfl mfl row a0 a1 a2 ans ev (by omega) (by omega) (by omega) q3 q4 q5 q6 q7 q8 q9
          have fault : ok2 (bnd (fX9_readObject_L134 N N N (nI n0) k0 u0 v0 (nI n1) k1 u1 v1 (nI n2) k2 u2 v2 on vs (nI (s + 1)) cfl wb wa we row a0 a1 a2) (fun u4 => fX9_read_L2 N N N 249 (nI n0) k0 u0 v0 (nI n1) k1 u1 v1 (nI n2) k2 u2 v2 on vs p (a + j + 1) (nI n) (nI (at_ + 3)) u4.1 u4.2.1 u4.2.2.1 u4.2.2.2.1 u4.2.2.2.2.1 u4.2.2.2.2.2.1 u4.2.2.2.2.2.2.1 u4.2.2.2.2.2.2.2.1 u4.2.2.2.2.2.2.2.2)) (fX10_read_L203 an bi ec f (fX10_read_L2 an bi ec f (b + j + 1)) (nI n) (nI at_) (nI s) (mfl ||| 2) we wb wa ans ev) (fun o o' => (∃ s', s' ≤ 249 ∧ o.1 = nI (s' + 1) ∧ o'.1 = nI s') ∧ o.2.2.2.2.1 = o'.2.2.1 ∧ isB o.2.2.2.2.1 ∧ rEv 1 n0 o.2.2.2.2.2.2.1 k0 u0 v0 o'.2.2.2.2.2.2 ∧ rEv 2 n1 o.2.2.2.2.2.2.2.1 k1 u1 v1 o'.2.2.2.2.2.2 ∧ rEv 3 n2 o.2.2.2.2.2.2.2.2 k2 u2 v2 o'.2.2.2.2.2.2) := by
            unfold fX9_readObject_L134 fX9_readObject_L142 fX0_addFault
            rw [bnd_t rfl, bnd_t rfl]
            exact nx s wb wa we _ _ _ _ row a0 a1 a2 ans ev rfl rfl hs hb1 hb2 hb3 r0 r1 r2
          by_cases g60 : g = 60
          · have g1 : ¬ g = 1 := by rw [g60]; decide
            have g30 : ¬ g = 30 := by rw [g60]; decide
            rw [brc_t g60]
            by_cases vv1 : v = 1
            · -- all
              have w0 : ¬ v = 0 := by rw [vv1]; decide
              have w2 : ¬ v = 2 := by rw [vv1]; decide
              rw [brc_t vv1]
              unfold fX9_readObject
              rw [brc_f w0, brc_f w2]
              unfold fX9_readObject_L14
              rw [brc_t g60, brc_t vv1]
              unfold fX10_read_L72 fX10_read_L94 fX10_read_L95 fX10_read_L118 fX10_read_L119
              rw [brc_f g1, brc_f g30, brc_f (show ¬ (1 : Int32) = 0 by decide)]
              unfold fX10_read_L131 fX10_read_L135 fX10_read_L145
              obtain ⟨x, y, ex, ey, ⟨s1, hs1, hs2, l1, l2⟩, hw, hwb⟩ := r_putB (on := on) (row := row) (bi := bi) (an := ans) hs hb1 hon
              rw [bnd_t ex, bnd_t ey, brc_f (show ¬ (1 : Int32) = 0 by decide), l1, l2]
              obtain ⟨x', y', ex', ey', ⟨s3, hs3, hs4, l3, l4⟩, hw', hwb'⟩ := r_putA (va := vs) (row := x.2.2) (vb := an) (an := y.2.2) hs2 hb2
              rw [bnd_t ex', bnd_t ey']
              unfold fX9_readObject_L142 fX10_read_L149 fX10_read_L178
              rw [bnd_t rfl, brc_t g60, brc_t (show v < 2 by rw [vv1]; decide), brc_f (show ¬ (1 : Int32) = 0 by decide)]
              rw [← hw, ← hw']
              exact nx s3 _ _ we _ _ _ _ _ a0 a1 a2 _ ev l3 l4 hs4 hwb hwb' hb3 r0 r1 r2
            · rw [brc_f vv1]
              unfold fX10_read_L71 fX10_read_L72 fX10_read_L94 fX10_read_L95 fX10_read_L118 fX10_read_L119 fX10_read_L135
              rw [brc_f g1, brc_f g30, brc_t (show (0 : Int32) = 0 from rfl), brc_t (show (0 : Int32) = 0 from rfl), brc_t (show (0 : Int32) = 0 from rfl), brc_t (show (0 : Int32) = 0 from rfl)]
              unfold fX10_read_L149
              rw [brc_t g60]
              have toL98 : ∀ s0, fX9_readObject_L14 N N N (nI n0) k0 u0 v0 (nI n1) k1 u1 v1 (nI n2) k2 u2 v2 on vs g v s0 (nI (s + 1)) cfl wb wa we row a0 a1 a2 = fX9_readObject_L98 N N N (nI n0) k0 u0 v0 (nI n1) k1 u1 v1 (nI n2) k2 u2 v2 on vs g v (nI (s + 1)) cfl wb wa we row a0 a1 a2 := by
                intro s0
                unfold fX9_readObject_L14
                rw [brc_t g60, brc_f vv1]
                unfold fX9_readObject_L51
                rw [brc_f g1]
                unfold fX9_readObject_L74
                rw [brc_f g30]
              have obj : fX9_readObject N N N (nI n0) k0 u0 v0 (nI n1) k1 u1 v1 (nI n2) k2 u2 v2 on vs g v (nI (s + 1)) cfl wb wa we row a0 a1 a2 = fX9_readObject_L98 N N N (nI n0) k0 u0 v0 (nI n1) k1 u1 v1 (nI n2) k2 u2 v2 on vs g v (nI (s + 1)) cfl wb wa we row a0 a1 a2 := by
                unfold fX9_readObject fX9_readObject_L9
                by_cases w0 : v = 0
                · rw [brc_t w0, toL98]
                · rw [brc_f w0]
                  by_cases w2 : v = 2
                  · rw [brc_t w2, toL98]
                  · rw [brc_f w2, toL98]
              rw [obj]
              unfold fX9_readObject_L98
              rw [brc_t g60]
              by_cases vlt : v < 2
              · rw [brc_t vlt, brc_t vlt]
                unfold fX10_read_L178
                rw [brc_t (show (0 : Int32) = 0 from rfl), brc_t (show (0 : Int32) = 0 from rfl), brc_t (show (0 : Int32) = 0 from rfl)]
                exact fault
              · rw [brc_f vlt, brc_f vlt]
                by_cases vgt : 4 < v
                · rw [brc_t vgt, brc_t vgt]
                  unfold fX10_read_L178
                  rw [brc_t (show (0 : Int32) = 0 from rfl), brc_t (show (0 : Int32) = 0 from rfl), brc_t (show (0 : Int32) = 0 from rfl)]
                  exact fault
                · rw [brc_f vgt, brc_f vgt]
                  have hv3 : v = 2 ∨ v = 3 ∨ v = 4 := by
                    rw [z_lt] at vlt vgt
                    simp only [Int32.reduceToInt] at vlt vgt
                    rw [z_eq, z_eq, z_eq]
                    simp only [Int32.reduceToInt]
                    omega
                  unfold fX9_readObject_L142
                  rcases hv3 with rfl | rfl | rfl
                  · have eo : fX3_ofClass ((2 : Int32) - 1) = some 0 := by
                      unfold fX3_ofClass
                      rw [show ((2 : Int32) - 1) = nI 1 from rfl, nI_m1 (by decide), ix_nI (by decide), grd_t (vp_in_nI (by decide) (by decide)), brc_t rfl]
                    obtain ⟨x, y, ex, ey, ⟨s1, hs1, hs2, l1, l2⟩, hw, hwb, hr, hsm⟩ := r_putE (we := we) (row := row) (ans := ans) (c := 1) h0 hN (by decide) e1 hs hb3 r0
                    have ey' : fX10_putEvents ec ((2 : Int32) - 1) (nI s) we ans ev = some y := ey
                    rw [bnd_t eo, bnd_t ey', brc_t rfl, bnd_t ex, bnd_t rfl, ← hw]
                    exact nx s1 wb wa _ _ _ _ _ _ _ a1 a2 _ _ l1 l2 hs2 hb1 hb2 hwb hr (rEv_other r1 hsm (by decide) (by omega)) (rEv_other r2 hsm (by decide) (by omega))
                  · have eo : fX3_ofClass ((3 : Int32) - 1) = some 1 := by
                      unfold fX3_ofClass
                      rw [show ((3 : Int32) - 1) = nI 2 from rfl, nI_m1 (by decide), ix_nI (by decide), grd_t (vp_in_nI (by decide) (by decide)), brc_f (by decide), brc_t rfl]
                    obtain ⟨x, y, ex, ey, ⟨s1, hs1, hs2, l1, l2⟩, hw, hwb, hr, hsm⟩ := r_putE (we := we) (row := row) (ans := ans) (c := 2) h1 hN (by decide) e2 hs hb3 r1
                    have ey' : fX10_putEvents ec ((3 : Int32) - 1) (nI s) we ans ev = some y := ey
                    rw [bnd_t eo, bnd_t ey', brc_f (by decide), brc_t rfl, bnd_t ex, bnd_t rfl, ← hw]
                    exact nx s1 wb wa _ _ _ _ _ _ a0 _ a2 _ _ l1 l2 hs2 hb1 hb2 hwb (rEv_other r0 hsm (by decide) (by omega)) hr (rEv_other r2 hsm (by decide) (by omega))
                  · have eo : fX3_ofClass ((4 : Int32) - 1) = some 2 := by
                      unfold fX3_ofClass
                      rw [show ((4 : Int32) - 1) = nI 3 from rfl, nI_m1 (by decide), ix_nI (by decide), grd_t (vp_in_nI (by decide) (by decide)), brc_f (by decide), brc_f (by decide)]
                    obtain ⟨x, y, ex, ey, ⟨s1, hs1, hs2, l1, l2⟩, hw, hwb, hr, hsm⟩ := r_putE (we := we) (row := row) (ans := ans) (c := 3) h2 hN (by decide) e3 hs hb3 r2
                    have ey' : fX10_putEvents ec ((4 : Int32) - 1) (nI s) we ans ev = some y := ey
                    rw [bnd_t eo, bnd_t ey', brc_f (by decide), brc_f (by decide), bnd_t ex, bnd_t rfl, ← hw]
                    exact nx s1 wb wa _ _ _ _ _ _ a0 a1 _ _ _ l1 l2 hs2 hb1 hb2 hwb (rEv_other r0 hsm (by decide) (by omega)) (rEv_other r1 hsm (by decide) (by omega)) hr
          · rw [brc_f g60]
            unfold fX10_read_L71 fX10_read_L72
            have toL51 : ∀ s0, fX9_readObject_L14 N N N (nI n0) k0 u0 v0 (nI n1) k1 u1 v1 (nI n2) k2 u2 v2 on vs g v s0 (nI (s + 1)) cfl wb wa we row a0 a1 a2 = fX9_readObject_L51 N N N (nI n0) k0 u0 v0 (nI n1) k1 u1 v1 (nI n2) k2 u2 v2 on vs g v s0 (nI (s + 1)) cfl wb wa we row a0 a1 a2 := by
              intro s0
              unfold fX9_readObject_L14
              rw [brc_f g60]
            have toF : fX9_readObject_L98 N N N (nI n0) k0 u0 v0 (nI n1) k1 u1 v1 (nI n2) k2 u2 v2 on vs g v (nI (s + 1)) cfl wb wa we row a0 a1 a2 = fX9_readObject_L134 N N N (nI n0) k0 u0 v0 (nI n1) k1 u1 v1 (nI n2) k2 u2 v2 on vs (nI (s + 1)) cfl wb wa we row a0 a1 a2 := by
              unfold fX9_readObject_L98
              rw [brc_f g60]
            by_cases pl : v = 0 ∨ v = 2
            · have obj : fX9_readObject N N N (nI n0) k0 u0 v0 (nI n1) k1 u1 v1 (nI n2) k2 u2 v2 on vs g v (nI (s + 1)) cfl wb wa we row a0 a1 a2 = fX9_readObject_L51 N N N (nI n0) k0 u0 v0 (nI n1) k1 u1 v1 (nI n2) k2 u2 v2 on vs g v 1 (nI (s + 1)) cfl wb wa we row a0 a1 a2 := by
                unfold fX9_readObject fX9_readObject_L9
                by_cases w0 : v = 0
                · rw [brc_t w0, toL51]
                · rw [brc_f w0]
                  by_cases w2 : v = 2
                  · rw [brc_t w2, toL51]
                  · exact absurd pl (fun q => q.elim w0 w2)
              rw [obj]
              unfold fX9_readObject_L51
              by_cases g1 : g = 1
              · have g30 : ¬ g = 30 := by rw [g1]; decide
                rw [brc_t g1, brc_f (show ¬ (1 : Int32) = 0 by decide), brc_t g1]
                have rf : brc (v = 0) (fX10_read_L90 an bi ec f (fX10_read_L2 an bi ec f (b + j + 1)) (nI n) (nI at_) g v 0 (nI s) mfl we wb wa ans ev) (brc (v = 2) (fX10_read_L90 an bi ec f (fX10_read_L2 an bi ec f (b + j + 1)) (nI n) (nI at_) g v 0 (nI s) mfl we wb wa ans ev) (fX10_read_L94 an bi ec f (fX10_read_L2 an bi ec f (b + j + 1)) (nI n) (nI at_) g v 0 (nI s) mfl we wb wa ans ev)) = fX10_read_L90 an bi ec f (fX10_read_L2 an bi ec f (b + j + 1)) (nI n) (nI at_) g v 0 (nI s) mfl we wb wa ans ev := by
                  rcases pl with w | w
                  · rw [brc_t w]
                  · by_cases w0 : v = 0
                    · rw [brc_t w0]
                    · rw [brc_f w0, brc_t w]
                rw [rf]
                unfold fX10_read_L90 fX10_read_L95 fX10_read_L118 fX10_read_L119
                rw [brc_f g30, brc_t (show (0 : Int32) = 0 from rfl), brc_f (show ¬ (1 : Int32) = 0 by decide)]
                unfold fX10_read_L131 fX10_read_L135 fX10_read_L149 fX10_read_L178 fX9_readObject_L142
                obtain ⟨x, y, ex, ey, ⟨s1, hs1, hs2, l1, l2⟩, hw, hwb⟩ := r_putB (on := on) (row := row) (bi := bi) (an := ans) hs hb1 hon
                rw [bnd_t ex, bnd_t ey, bnd_t rfl, brc_t (show (0 : Int32) = 0 from rfl), brc_t (show (0 : Int32) = 0 from rfl), brc_f g60, brc_t (show (0 : Int32) = 0 from rfl), brc_f (show ¬ (1 : Int32) = 0 by decide), ← hw]
                exact nx s1 _ wa we _ _ _ _ _ a0 a1 a2 _ ev l1 l2 hs2 hwb hb2 hb3 r0 r1 r2
              · rw [brc_f g1, brc_f g1]
                unfold fX9_readObject_L74 fX10_read_L94 fX10_read_L95
                by_cases g30 : g = 30
                · rw [brc_t g30, brc_f (show ¬ (1 : Int32) = 0 by decide), brc_t g30]
                  have rf : brc (v = 0) (fX10_read_L114 an bi ec f (fX10_read_L2 an bi ec f (b + j + 1)) (nI n) (nI at_) g v 0 0 (nI s) mfl we wb wa ans ev) (brc (v = 2) (fX10_read_L114 an bi ec f (fX10_read_L2 an bi ec f (b + j + 1)) (nI n) (nI at_) g v 0 0 (nI s) mfl we wb wa ans ev) (fX10_read_L118 an bi ec f (fX10_read_L2 an bi ec f (b + j + 1)) (nI n) (nI at_) g v 0 0 (nI s) mfl we wb wa ans ev)) = fX10_read_L114 an bi ec f (fX10_read_L2 an bi ec f (b + j + 1)) (nI n) (nI at_) g v 0 0 (nI s) mfl we wb wa ans ev := by
                    rcases pl with w | w
                    · rw [brc_t w]
                    · by_cases w0 : v = 0
                      · rw [brc_t w0]
                      · rw [brc_f w0, brc_t w]
                  rw [rf]
                  unfold fX10_read_L114 fX10_read_L119 fX10_read_L135
                  rw [brc_t (show (0 : Int32) = 0 from rfl), brc_t (show (0 : Int32) = 0 from rfl), brc_t (show (0 : Int32) = 0 from rfl), brc_f (show ¬ (1 : Int32) = 0 by decide)]
                  unfold fX10_read_L145 fX10_read_L149 fX10_read_L178 fX9_readObject_L142
                  obtain ⟨x, y, ex, ey, ⟨s1, hs1, hs2, l1, l2⟩, hw, hwb⟩ := r_putA (va := vs) (row := row) (vb := an) (an := ans) hs hb2
                  rw [bnd_t ex, bnd_t ey, bnd_t rfl, brc_f g60, brc_t (show (0 : Int32) = 0 from rfl), brc_t (show (0 : Int32) = 0 from rfl), brc_f (show ¬ (1 : Int32) = 0 by decide), ← hw]
                  exact nx s1 wb _ we _ _ _ _ _ a0 a1 a2 _ ev l1 l2 hs2 hb1 hwb hb3 r0 r1 r2
                · rw [brc_f g30, brc_f g30, toF]
                  unfold fX10_read_L118 fX10_read_L119 fX10_read_L135 fX10_read_L149 fX10_read_L178
                  rw [brc_t (show (0 : Int32) = 0 from rfl), brc_t (show (0 : Int32) = 0 from rfl), brc_t (show (0 : Int32) = 0 from rfl), brc_t (show (0 : Int32) = 0 from rfl), brc_f g60, brc_t (show (0 : Int32) = 0 from rfl), brc_t (show (0 : Int32) = 0 from rfl), brc_t (show (0 : Int32) = 0 from rfl)]
                  exact fault
            · have w0 : ¬ v = 0 := fun q => pl (Or.inl q)
              have w2 : ¬ v = 2 := fun q => pl (Or.inr q)
              have obj : fX9_readObject N N N (nI n0) k0 u0 v0 (nI n1) k1 u1 v1 (nI n2) k2 u2 v2 on vs g v (nI (s + 1)) cfl wb wa we row a0 a1 a2 = fX9_readObject_L134 N N N (nI n0) k0 u0 v0 (nI n1) k1 u1 v1 (nI n2) k2 u2 v2 on vs (nI (s + 1)) cfl wb wa we row a0 a1 a2 := by
                unfold fX9_readObject
                rw [brc_f w0, brc_f w2, toL51]
                unfold fX9_readObject_L51
                have to74 : fX9_readObject_L74 N N N (nI n0) k0 u0 v0 (nI n1) k1 u1 v1 (nI n2) k2 u2 v2 on vs g v 0 (nI (s + 1)) cfl wb wa we row a0 a1 a2 = fX9_readObject_L134 N N N (nI n0) k0 u0 v0 (nI n1) k1 u1 v1 (nI n2) k2 u2 v2 on vs (nI (s + 1)) cfl wb wa we row a0 a1 a2 := by
                  unfold fX9_readObject_L74
                  by_cases g30 : g = 30
                  · rw [brc_t g30, brc_t rfl, toF]
                  · rw [brc_f g30, toF]
                by_cases g1 : g = 1
                · rw [brc_t g1, brc_t rfl, to74]
                · rw [brc_f g1, to74]
              rw [obj]
              have m95 : fX10_read_L94 an bi ec f (fX10_read_L2 an bi ec f (b + j + 1)) (nI n) (nI at_) g v 0 (nI s) mfl we wb wa ans ev = fX10_read_L203 an bi ec f (fX10_read_L2 an bi ec f (b + j + 1)) (nI n) (nI at_) (nI s) (mfl ||| 2) we wb wa ans ev := by
                unfold fX10_read_L94 fX10_read_L95
                have m118 : fX10_read_L118 an bi ec f (fX10_read_L2 an bi ec f (b + j + 1)) (nI n) (nI at_) g v 0 0 (nI s) mfl we wb wa ans ev = fX10_read_L203 an bi ec f (fX10_read_L2 an bi ec f (b + j + 1)) (nI n) (nI at_) (nI s) (mfl ||| 2) we wb wa ans ev := by
                  unfold fX10_read_L118 fX10_read_L119 fX10_read_L135 fX10_read_L149 fX10_read_L178
                  rw [brc_t (show (0 : Int32) = 0 from rfl), brc_t (show (0 : Int32) = 0 from rfl), brc_t (show (0 : Int32) = 0 from rfl), brc_t (show (0 : Int32) = 0 from rfl), brc_f g60, brc_t (show (0 : Int32) = 0 from rfl), brc_t (show (0 : Int32) = 0 from rfl), brc_t (show (0 : Int32) = 0 from rfl)]
                by_cases g30 : g = 30
                · rw [brc_t g30, brc_f w0, brc_f w2, m118]
                · rw [brc_f g30, m118]
              have m72 : brc (g = 1) (brc (v = 0) (fX10_read_L90 an bi ec f (fX10_read_L2 an bi ec f (b + j + 1)) (nI n) (nI at_) g v 0 (nI s) mfl we wb wa ans ev) (brc (v = 2) (fX10_read_L90 an bi ec f (fX10_read_L2 an bi ec f (b + j + 1)) (nI n) (nI at_) g v 0 (nI s) mfl we wb wa ans ev) (fX10_read_L94 an bi ec f (fX10_read_L2 an bi ec f (b + j + 1)) (nI n) (nI at_) g v 0 (nI s) mfl we wb wa ans ev))) (fX10_read_L94 an bi ec f (fX10_read_L2 an bi ec f (b + j + 1)) (nI n) (nI at_) g v 0 (nI s) mfl we wb wa ans ev) = fX10_read_L203 an bi ec f (fX10_read_L2 an bi ec f (b + j + 1)) (nI n) (nI at_) (nI s) (mfl ||| 2) we wb wa ans ev := by
                by_cases g1 : g = 1
                · rw [brc_t g1, brc_f w0, brc_f w2, m95]
                · rw [brc_f g1, m95]
              rw [m72]
              exact fault
        · rw [brc_f h6, brc_f h6, bnd_t rfl]
          exact ok2_ss ⟨⟨s, hs, rfl, rfl⟩, rfl, hb3, r0, r1, r2⟩
theorem r_read {N n n0 n1 n2 : Nat} {cfl mfl : Int32} {k0 u0 v0 k1 u1 v1 k2 u2 v2 on vs p an bi ec f row a0 a1 a2 ans ev : Nat → Int32} (hN : N ≤ 40) (h0 : n0 ≤ N) (h1 : n1 ≤ N) (h2 : n2 ≤ N) (hn : n ≤ 249) (hp : ∀ i, i < n → p i = f i) (hon : bol on) (e1 : ec 1 = nI n0) (e2 : ec 2 = nI n1) (e3 : ec 3 = nI n2) (r0 : rEv 1 n0 a0 k0 u0 v0 ev) (r1 : rEv 2 n1 a1 k1 u1 v1 ev) (r2 : rEv 3 n2 a2 k2 u2 v2 ev) :
    ok2 (fX9_read N N N 249 (nI n0) k0 u0 v0 (nI n1) k1 u1 v1 (nI n2) k2 u2 v2 on vs p (nI n) 5 cfl 0 0 0 row a0 a1 a2) (fX10_read an bi ec f (nI n) 4 mfl 0 0 0 ans ev) (fun o o' => (∃ s', s' ≤ 249 ∧ o.1 = nI (s' + 1) ∧ o'.1 = nI s') ∧ o.2.2.2.2.1 = o'.2.2.1 ∧ isB o.2.2.2.2.1 ∧ rEv 1 n0 o.2.2.2.2.2.2.1 k0 u0 v0 o'.2.2.2.2.2.2 ∧ rEv 2 n1 o.2.2.2.2.2.2.2.1 k1 u1 v1 o'.2.2.2.2.2.2 ∧ rEv 3 n2 o.2.2.2.2.2.2.2.2 k2 u2 v2 o'.2.2.2.2.2.2) := by
  unfold fX9_read fX10_read
  have e := r_read_loop (an := an) (bi := bi) (vs := vs) hN h0 h1 h2 hn hp hon e1 e2 e3 83 4916 4916 2 4 0 0 0 cfl mfl row a0 a1 a2 ans ev (by omega) (by decide) (by decide) (by decide) (Or.inl rfl) (Or.inl rfl) (Or.inl rfl) r0 r1 r2
  exact e
