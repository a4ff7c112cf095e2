/-! ### OutStation$Link.takesData ()Z -/
abbrev wdX5_takesData (G : GT) (a_t : Nat) (t_wasReset : Int32) (t_nextCount : Int32) (t_taking : Int32) : va_W := [(a_t, .inr (5, [.int t_wasReset, .int t_nextCount, .int t_taking]))]
abbrev wsX5_takesData : List Cond := .code yX5_takesData cX5_takesData 1 (some .boolean) :: BG
abbrev rmX5_takesData : Room := { frames := 0, cells := 0, slots := 0, locals := 0 }
noncomputable def fX5_takesData (t_taking : Int32) : Option (Int32) := grd (isB t_taking) (some (t_taking))
set_option maxHeartbeats 4000000 in
set_option maxRecDepth 100000 in
theorem wX5_takesData_E {p : Program} {l : Launch} {e : Env} {s : State} {m : MethodId} {args : Array Value} {below : List Frame} {meth : Method} {c : Code} {G : GT} {A : Nat → Prop} (C : cxt p s m args meth c cX5_takesData (some .boolean) 1 "OutStation$Link" wsX5_takesData G A) {a_t : Nat} {t_wasReset : Int32} {t_nextCount : Int32} {t_taking : Int32} {out : Int32} : ∀ (H : Heap) (locs : List Loc) (ls : Array Slot), fX5_takesData t_taking = some out → va_P G.1 vwCl (wdX5_takesData G a_t t_wasReset t_nextCount t_taking) H → va_D A (wdX5_takesData G a_t t_wasReset t_nextCount t_taking) → va_S A s.heap H locs → lv_has ls 1 [(0, .ref a_t)] → W p l e rmX5_takesData s m args below meth c H locs 0 0 (MQ below (gQi G A out (wdX5_takesData G a_t t_wasReset t_nextCount t_taking)) args s 0 0 A) (F0 m 0 ls []) := by
  obtain ⟨hx, hb, hr, hml, hown, hts, hlocks, hA, hK⟩ := id C
  have hB : ∀ w ∈ BG, w.before args s = true := fun w h => hts w (List.mem_cons_of_mem _ h)
  intro H locs ls h hP hD hS hl
  unfold fX5_takesData at h
  refine lv_aload_n hx hb dX5_takesData_0 rfl (lv_at hl 0 rfl) ?_
  refine va_get (D := G.1) (ci := 5) (v := .int t_taking) (C := RX5) (T := TX5) (N := 3) hx hb hB iX5 hown hK.1 hP 0 rfl rfl 2 (by decide) (hB _ kw110) (fun _ h9 => h9) rfl dX5_takesData_1 ?_
  obtain ⟨hg1, h⟩ := grd_some h
  obtain rfl := Option.some.inj h
  exact W.zret (v := t_taking) hx hb hr (isB_nar hg1) (fun t ht hW => ⟨⟨_, (), rfl, rfl, by rw [ht]; exact hP, hD⟩, hS.F ht⟩) hS.2.2 dX5_takesData_4
set_option maxHeartbeats 4000000 in
set_option maxRecDepth 100000 in
theorem mX5_takesData (l : Launch) (G : GT) (a_t : Nat) (t_wasReset : Int32) (t_nextCount : Int32) (t_taking : Int32) (sz : Nat) (out : Int32) (h : fX5_takesData t_taking = some out) : Met l yX5_takesData wsX5_takesData rmX5_takesData (gPc G [.ref a_t] sz (wdX5_takesData G a_t t_wasReset t_nextCount t_taking)) (gQi G (va_A (wdX5_takesData G a_t t_wasReset t_nextCount t_taking) sz) out (wdX5_takesData G a_t t_wasReset t_nextCount t_taking)) 0 0 (va_A (wdX5_takesData G a_t t_wasReset t_nextCount t_taking) sz) := by
  refine Met.ofW (cc := cX5_takesData) (maxL := 1) (ret := (some .boolean)) (by decide) rfl ?_
  intro p e s m args below meth c s₁ B hml hv
  obtain ⟨rfl, hsz, hP, hK, hD0⟩ := hv
  have hts := atoms_spec (ws := wsX5_takesData) B.pre
  have hown : s.vm.findClass "OutStation$Link" = some m.cls := findClass_of_methodNamed B.named
  subst hsz
  have hD := hD0.self (sz := s.heap.size)
  generalize hAe : va_A (wdX5_takesData G a_t t_wasReset t_nextCount t_taking) s.heap.size = A at hD ⊢
  have hA : ∀ q : Nat, s.heap.size ≤ q → A q := fun q h => by rw [← hAe]; exact Or.inr h
  have hS : va_S A s.heap s.heap [] := va_S.rf
  have hl := lv_entry ([.ref a_t]) (n := 1) (Nat.le_of_ble_eq_true rfl)
  rw [lg_entry_eq]
  generalize (lg_sl ([.ref a_t]) ++ List.replicate (1 - (lg_sl ([.ref a_t])).length) Slot.unset).toArray = ls at hl ⊢
  exact wX5_takesData_E ⟨B.exec, B.bytes, B.returns, hml, hown, hts, B.notSynchronized, hA, hK⟩  _ _ _ h hP hD hS hl
/-! ### OutStation$Link.replyToCounted (IZ)I -/
abbrev wdX5_replyToCounted (G : GT) (a_t : Nat) (t_wasReset : Int32) (t_nextCount : Int32) (t_taking : Int32) : va_W := [(a_t, .inr (5, [.int t_wasReset, .int t_nextCount, .int t_taking]))]
abbrev wsX5_replyToCounted : List Cond := .code yX5_replyToCounted cX5_replyToCounted 3 (some .int) :: BG
abbrev rmX5_replyToCounted : Room := { frames := 0, cells := 0, slots := 0, locals := 0 }
noncomputable def fX5_replyToCounted_L36 (t_wasReset : Int32) (t_nextCount : Int32) (t_taking : Int32) : Option (Int32 × Int32 × Int32) := some ((0 : Int32), t_nextCount, t_taking)
set_option maxHeartbeats 4000000 in
set_option maxRecDepth 100000 in
theorem wX5_replyToCounted_L36 {p : Program} {l : Launch} {e : Env} {s : State} {m : MethodId} {args : Array Value} {below : List Frame} {meth : Method} {c : Code} {G : GT} {A : Nat → Prop} (C : cxt p s m args meth c cX5_replyToCounted (some .int) 3 "OutStation$Link" wsX5_replyToCounted G A) {a_t : Nat} {t_wasReset : Int32} {out : Int32 × Int32 × Int32} : ∀ (t_nextCount : Int32) (t_taking : Int32) (H : Heap) (locs : List Loc) (ls : Array Slot), fX5_replyToCounted_L36 t_wasReset t_nextCount t_taking = some out → va_P G.1 vwCl (wdX5_replyToCounted G a_t t_wasReset t_nextCount t_taking) H → va_D A (wdX5_replyToCounted G a_t t_wasReset t_nextCount t_taking) → va_S A s.heap H locs → lv_has ls 3 [] → W p l e rmX5_replyToCounted s m args below meth c H locs 0 0 (MQ below (gQi G A out.1 (wdX5_replyToCounted G a_t t_wasReset out.2.1 out.2.2)) args s 0 0 A) (F0 m 36 ls []) := by
  obtain ⟨hx, hb, hr, hml, hown, hts, hlocks, hA, hK⟩ := id C
  have hB : ∀ w ∈ BG, w.before args s = true := fun w h => hts w (List.mem_cons_of_mem _ h)
  intro t_nextCount t_taking H locs ls h hP hD hS hl
  unfold fX5_replyToCounted_L36 at h
  refine lv_iconst (v := (0 : Int32)) hx hb dX5_replyToCounted_36 (by decide) ?_
  obtain rfl := Option.some.inj h
  exact W.iret (v := (0 : Int32)) hx hb hr (fun t ht hW => ⟨⟨_, (), rfl, rfl, by rw [ht]; exact hP, hD⟩, hS.F ht⟩) hS.2.2 dX5_replyToCounted_37
noncomputable def fX5_replyToCounted (t_wasReset : Int32) (x1 : Int32) (x2 : Int32) (t_nextCount : Int32) (t_taking : Int32) : Option (Int32 × Int32 × Int32) := brc (t_wasReset = 0) (some ((1 : Int32), t_nextCount, t_taking)) (brc (((x1 >>> ((5 : Int32) &&& 31)) &&& (1 : Int32)) = t_nextCount) (grd (isB x2) (fX5_replyToCounted_L36 t_wasReset ((1 : Int32) - t_nextCount) x2)) (fX5_replyToCounted_L36 t_wasReset t_nextCount t_taking))
set_option maxHeartbeats 4000000 in
set_option maxRecDepth 100000 in
theorem wX5_replyToCounted_E {p : Program} {l : Launch} {e : Env} {s : State} {m : MethodId} {args : Array Value} {below : List Frame} {meth : Method} {c : Code} {G : GT} {A : Nat → Prop} (C : cxt p s m args meth c cX5_replyToCounted (some .int) 3 "OutStation$Link" wsX5_replyToCounted G A) {a_t : Nat} {t_wasReset : Int32} {out : Int32 × Int32 × Int32} : ∀ (x1 : Int32) (x2 : Int32) (t_nextCount : Int32) (t_taking : Int32) (H : Heap) (locs : List Loc) (ls : Array Slot), fX5_replyToCounted t_wasReset x1 x2 t_nextCount t_taking = some out → va_P G.1 vwCl (wdX5_replyToCounted G a_t t_wasReset t_nextCount t_taking) H → va_D A (wdX5_replyToCounted G a_t t_wasReset t_nextCount t_taking) → va_S A s.heap H locs → lv_has ls 3 [(0, .ref a_t), (1, .int x1), (2, .int x2)] → W p l e rmX5_replyToCounted s m args below meth c H locs 0 0 (MQ below (gQi G A out.1 (wdX5_replyToCounted G a_t t_wasReset out.2.1 out.2.2)) args s 0 0 A) (F0 m 0 ls []) := by
  obtain ⟨hx, hb, hr, hml, hown, hts, hlocks, hA, hK⟩ := id C
  have hB : ∀ w ∈ BG, w.before args s = true := fun w h => hts w (List.mem_cons_of_mem _ h)
  intro x1 x2 t_nextCount t_taking H locs ls h hP hD hS hl
  unfold fX5_replyToCounted at h
  refine lv_aload_n hx hb dX5_replyToCounted_0 rfl (lv_at hl 0 rfl) ?_
  refine va_get (D := G.1) (ci := 5) (v := .int t_wasReset) (C := RX5) (T := TX5) (N := 3) hx hb hB iX5 hown hK.1 hP 0 rfl rfl 0 (by decide) (hB _ kw108) (fun _ h9 => h9) rfl dX5_replyToCounted_1 ?_
  refine lv_if_ne (tgt := 9) hx hb dX5_replyToCounted_4 (by decide) (fun hc4 => ?_) (fun hc4 => ?_)
  · have h := brc_ff h hc4
    refine lv_iload_n hx hb dX5_replyToCounted_9 rfl (lv_at hl 1 rfl) ?_
    refine lv_iconst (v := (5 : Int32)) hx hb dX5_replyToCounted_10 (by decide) ?_
    refine lv_ishr hx hb dX5_replyToCounted_11 ?_
    refine lv_iconst (v := (1 : Int32)) hx hb dX5_replyToCounted_12 (by decide) ?_
    refine lv_iand hx hb dX5_replyToCounted_13 ?_
    refine lv_aload_n hx hb dX5_replyToCounted_14 rfl (lv_at hl 0 rfl) ?_
    refine va_get (D := G.1) (ci := 5) (v := .int t_nextCount) (C := RX5) (T := TX5) (N := 3) hx hb hB iX5 hown hK.1 hP 0 rfl rfl 1 (by decide) (hB _ kw109) (fun _ h9 => h9) rfl dX5_replyToCounted_15 ?_
    refine lv_icmp_ne (tgt := 36) hx hb dX5_replyToCounted_18 (by decide) (fun hc18 => ?_) (fun hc18 => ?_)
    · have h := brc_ff h hc18
      exact wX5_replyToCounted_L36 C t_nextCount t_taking _ _ _ h hP hD hS (lv_sub hl [] rfl)
    · have h := brc_tt h hc18
      refine lv_aload_n hx hb dX5_replyToCounted_21 rfl (lv_at hl 0 rfl) ?_
      refine lv_iconst (v := (1 : Int32)) hx hb dX5_replyToCounted_22 (by decide) ?_
      refine lv_aload_n hx hb dX5_replyToCounted_23 rfl (lv_at hl 0 rfl) ?_
      refine va_get (D := G.1) (ci := 5) (v := .int t_nextCount) (C := RX5) (T := TX5) (N := 3) hx hb hB iX5 hown hK.1 hP 0 rfl rfl 1 (by decide) (hB _ kw109) (fun _ h9 => h9) rfl dX5_replyToCounted_24 ?_
      refine lv_isub hx hb dX5_replyToCounted_27 ?_
      refine va_put (D := G.1) (ci := 5) (v := .int ((1 : Int32) - t_nextCount)) (ty := .int) (C := RX5) (T := TX5) (N := 3) hx hb hB iX5 tyX5 tyX5_ok nmX5 hown hK.1 hP hD hS 0 rfl rfl 1 (by decide) (hB _ kw109) (fun _ h9 => h9) rfl (by decide +kernel) rfl rfl (Nat.le_of_ble_eq_true rfl) dX5_replyToCounted_28 (fun H locs hP hD hS => ?_)
      have hP : va_P G.1 vwCl (wdX5_replyToCounted G a_t t_wasReset ((1 : Int32) - t_nextCount) t_taking) H := hP
      have hD : va_D A (wdX5_replyToCounted G a_t t_wasReset ((1 : Int32) - t_nextCount) t_taking) := hD
      refine lv_aload_n hx hb dX5_replyToCounted_31 rfl (lv_at hl 0 rfl) ?_
      refine lv_iload_n hx hb dX5_replyToCounted_32 rfl (lv_at hl 2 rfl) ?_
      obtain ⟨hg1, h⟩ := grd_some h
      refine va_put (D := G.1) (ci := 5) (v := .int x2) (ty := .boolean) (C := RX5) (T := TX5) (N := 3) hx hb hB iX5 tyX5 tyX5_ok nmX5 hown hK.1 hP hD hS 0 rfl rfl 2 (by decide) (hB _ kw110) (fun _ h9 => h9) rfl (by decide +kernel) (isB_nar hg1) (isB_fit hg1) (Nat.le_of_ble_eq_true rfl) dX5_replyToCounted_33 (fun H locs hP hD hS => ?_)
      have hP : va_P G.1 vwCl (wdX5_replyToCounted G a_t t_wasReset ((1 : Int32) - t_nextCount) x2) H := hP
      have hD : va_D A (wdX5_replyToCounted G a_t t_wasReset ((1 : Int32) - t_nextCount) x2) := hD
      exact wX5_replyToCounted_L36 C ((1 : Int32) - t_nextCount) x2 _ _ _ h hP hD hS (lv_sub hl [] rfl)
  · have h := brc_tt h hc4
    refine lv_iconst (v := (1 : Int32)) hx hb dX5_replyToCounted_7 (by decide) ?_
    obtain rfl := Option.some.inj h
    exact W.iret (v := (1 : Int32)) hx hb hr (fun t ht hW => ⟨⟨_, (), rfl, rfl, by rw [ht]; exact hP, hD⟩, hS.F ht⟩) hS.2.2 dX5_replyToCounted_8
set_option maxHeartbeats 4000000 in
set_option maxRecDepth 100000 in
theorem mX5_replyToCounted (l : Launch) (G : GT) (a_t : Nat) (t_wasReset : Int32) (x1 : Int32) (x2 : Int32) (t_nextCount : Int32) (t_taking : Int32) (sz : Nat) (out : Int32 × Int32 × Int32) (h : fX5_replyToCounted t_wasReset x1 x2 t_nextCount t_taking = some out) : Met l yX5_replyToCounted wsX5_replyToCounted rmX5_replyToCounted (gPc G [.ref a_t, .int x1, .int x2] sz (wdX5_replyToCounted G a_t t_wasReset t_nextCount t_taking)) (gQi G (va_A (wdX5_replyToCounted G a_t t_wasReset t_nextCount t_taking) sz) out.1 (wdX5_replyToCounted G a_t t_wasReset out.2.1 out.2.2)) 0 0 (va_A (wdX5_replyToCounted G a_t t_wasReset t_nextCount t_taking) sz) := by
  refine Met.ofW (cc := cX5_replyToCounted) (maxL := 3) (ret := (some .int)) (by decide) rfl ?_
  intro p e s m args below meth c s₁ B hml hv
  obtain ⟨rfl, hsz, hP, hK, hD0⟩ := hv
  have hts := atoms_spec (ws := wsX5_replyToCounted) B.pre
  have hown : s.vm.findClass "OutStation$Link" = some m.cls := findClass_of_methodNamed B.named
  subst hsz
  have hD := hD0.self (sz := s.heap.size)
  generalize hAe : va_A (wdX5_replyToCounted G a_t t_wasReset t_nextCount t_taking) s.heap.size = A at hD ⊢
  have hA : ∀ q : Nat, s.heap.size ≤ q → A q := fun q h => by rw [← hAe]; exact Or.inr h
  have hS : va_S A s.heap s.heap [] := va_S.rf
  have hl := lv_entry ([.ref a_t, .int x1, .int x2]) (n := 3) (Nat.le_of_ble_eq_true rfl)
  rw [lg_entry_eq]
  generalize (lg_sl ([.ref a_t, .int x1, .int x2]) ++ List.replicate (3 - (lg_sl ([.ref a_t, .int x1, .int x2])).length) Slot.unset).toArray = ls at hl ⊢
  exact wX5_replyToCounted_E ⟨B.exec, B.bytes, B.returns, hml, hown, hts, B.notSynchronized, hA, hK⟩ x1 x2 t_nextCount t_taking _ _ _ h hP hD hS hl
/-! ### OutStation$Link.replyTo (I)I -/
abbrev wdX5_replyTo (G : GT) (a_t : Nat) (t_wasReset : Int32) (t_nextCount : Int32) (t_taking : Int32) : va_W := [(a_t, .inr (5, [.int t_wasReset, .int t_nextCount, .int t_taking]))]
abbrev wsX5_replyTo : List Cond := .code yX5_replyTo cX5_replyTo 2 (some .int) :: BG
abbrev rmX5_replyTo : Room := { frames := 1, cells := 0, slots := 0, locals := 22 }
noncomputable def fX5_replyTo (x1 : Int32) (t_wasReset : Int32) (t_nextCount : Int32) (t_taking : Int32) : Option (Int32 × Int32 × Int32 × Int32) := brc ((x1 &&& (15 : Int32)) = (0 : Int32)) (some ((0 : Int32), (1 : Int32), (1 : Int32), (0 : Int32))) (brc ((x1 &&& (15 : Int32)) = (1 : Int32)) (some ((15 : Int32), t_wasReset, t_nextCount, (0 : Int32))) (brc ((x1 &&& (15 : Int32)) = (2 : Int32)) (bnd (fX5_replyToCounted t_wasReset x1 (0 : Int32) t_nextCount (0 : Int32)) (fun u1 => some (u1.1, t_wasReset, u1.2.1, u1.2.2))) (brc ((x1 &&& (15 : Int32)) = (3 : Int32)) (bnd (fX5_replyToCounted t_wasReset x1 (1 : Int32) t_nextCount (0 : Int32)) (fun u2 => some (u2.1, t_wasReset, u2.2.1, u2.2.2))) (brc ((x1 &&& (15 : Int32)) = (4 : Int32)) (some ((-1 : Int32), t_wasReset, t_nextCount, (1 : Int32))) (brc ((x1 &&& (15 : Int32)) = (5 : Int32)) (some ((15 : Int32), t_wasReset, t_nextCount, (0 : Int32))) (brc ((x1 &&& (15 : Int32)) = (6 : Int32)) (some ((15 : Int32), t_wasReset, t_nextCount, (0 : Int32))) (brc ((x1 &&& (15 : Int32)) = (7 : Int32)) (some ((15 : Int32), t_wasReset, t_nextCount, (0 : Int32))) (brc ((x1 &&& (15 : Int32)) = (8 : Int32)) (some ((15 : Int32), t_wasReset, t_nextCount, (0 : Int32))) (brc ((x1 &&& (15 : Int32)) = (9 : Int32)) (some ((11 : Int32), t_wasReset, t_nextCount, (0 : Int32))) (some ((15 : Int32), t_wasReset, t_nextCount, (0 : Int32))))))))))))
set_option maxHeartbeats 4000000 in
set_option maxRecDepth 100000 in
theorem wX5_replyTo_E {p : Program} {l : Launch} {e : Env} {s : State} {m : MethodId} {args : Array Value} {below : List Frame} {meth : Method} {c : Code} {G : GT} {A : Nat → Prop} (C : cxt p s m args meth c cX5_replyTo (some .int) 2 "OutStation$Link" wsX5_replyTo G A) {a_t : Nat} {out : Int32 × Int32 × Int32 × Int32} : ∀ (x1 : Int32) (t_wasReset : Int32) (t_nextCount : Int32) (t_taking : Int32) (H : Heap) (locs : List Loc) (ls : Array Slot), fX5_replyTo x1 t_wasReset t_nextCount t_taking = some out → va_P G.1 vwCl (wdX5_replyTo G a_t t_wasReset t_nextCount t_taking) H → va_D A (wdX5_replyTo G a_t t_wasReset t_nextCount t_taking) → va_S A s.heap H locs → lv_has ls 2 [(0, .ref a_t), (1, .int x1)] → W p l e rmX5_replyTo s m args below meth c H locs 0 0 (MQ below (gQi G A out.1 (wdX5_replyTo G a_t out.2.1 out.2.2.1 out.2.2.2)) args s 0 0 A) (F0 m 0 ls []) := by
  obtain ⟨hx, hb, hr, hml, hown, hts, hlocks, hA, hK⟩ := id C
  have hB : ∀ w ∈ BG, w.before args s = true := fun w h => hts w (List.mem_cons_of_mem _ h)
  intro x1 t_wasReset t_nextCount t_taking H locs ls h hP hD hS hl
  unfold fX5_replyTo at h
  refine lv_aload_n hx hb dX5_replyTo_0 rfl (lv_at hl 0 rfl) ?_
  refine lv_iconst (v := (0 : Int32)) hx hb dX5_replyTo_1 (by decide) ?_
  refine va_put (D := G.1) (ci := 5) (v := .int (0 : Int32)) (ty := .boolean) (C := RX5) (T := TX5) (N := 3) hx hb hB iX5 tyX5 tyX5_ok nmX5 hown hK.1 hP hD hS 0 rfl rfl 2 (by decide) (hB _ kw110) (fun _ h9 => h9) rfl (by decide +kernel) (isB_nar (Or.inl rfl)) (isB_fit (Or.inl rfl)) (Nat.le_of_ble_eq_true rfl) dX5_replyTo_2 (fun H locs hP hD hS => ?_)
  have hP : va_P G.1 vwCl (wdX5_replyTo G a_t t_wasReset t_nextCount (0 : Int32)) H := hP
  have hD : va_D A (wdX5_replyTo G a_t t_wasReset t_nextCount (0 : Int32)) := hD
  refine lv_iload_n hx hb dX5_replyTo_5 rfl (lv_at hl 1 rfl) ?_
  refine lv_bipush (v := (15 : Int32)) hx hb dX5_replyTo_6 (by decide) ?_
  refine lv_iand hx hb dX5_replyTo_8 ?_
  by_cases hc9_0 : (x1 &&& (15 : Int32)) = (0 : Int32)
  · have h := brc_tt h hc9_0
    refine lv_tableIn (tgt := 64) (off := 55) hx hb dX5_replyTo_9 (by rw [hc9_0]; decide) (by rw [hc9_0]; decide) (by rw [hc9_0]; rfl) (by decide) ?_
    refine lv_aload_n hx hb dX5_replyTo_64 rfl (lv_at hl 0 rfl) ?_
    refine lv_iconst (v := (1 : Int32)) hx hb dX5_replyTo_65 (by decide) ?_
    refine va_put (D := G.1) (ci := 5) (v := .int (1 : Int32)) (ty := .boolean) (C := RX5) (T := TX5) (N := 3) hx hb hB iX5 tyX5 tyX5_ok nmX5 hown hK.1 hP hD hS 0 rfl rfl 0 (by decide) (hB _ kw108) (fun _ h9 => h9) rfl (by decide +kernel) (isB_nar (Or.inr rfl)) (isB_fit (Or.inr rfl)) (Nat.le_of_ble_eq_true rfl) dX5_replyTo_66 (fun H locs hP hD hS => ?_)
    have hP : va_P G.1 vwCl (wdX5_replyTo G a_t (1 : Int32) t_nextCount (0 : Int32)) H := hP
    have hD : va_D A (wdX5_replyTo G a_t (1 : Int32) t_nextCount (0 : Int32)) := hD
    refine lv_aload_n hx hb dX5_replyTo_69 rfl (lv_at hl 0 rfl) ?_
    refine lv_iconst (v := (1 : Int32)) hx hb dX5_replyTo_70 (by decide) ?_
    refine va_put (D := G.1) (ci := 5) (v := .int (1 : Int32)) (ty := .int) (C := RX5) (T := TX5) (N := 3) hx hb hB iX5 tyX5 tyX5_ok nmX5 hown hK.1 hP hD hS 0 rfl rfl 1 (by decide) (hB _ kw109) (fun _ h9 => h9) rfl (by decide +kernel) rfl rfl (Nat.le_of_ble_eq_true rfl) dX5_replyTo_71 (fun H locs hP hD hS => ?_)
    have hP : va_P G.1 vwCl (wdX5_replyTo G a_t (1 : Int32) (1 : Int32) (0 : Int32)) H := hP
    have hD : va_D A (wdX5_replyTo G a_t (1 : Int32) (1 : Int32) (0 : Int32)) := hD
    refine lv_iconst (v := (0 : Int32)) hx hb dX5_replyTo_74 (by decide) ?_
    obtain rfl := Option.some.inj h
    exact W.iret (v := (0 : Int32)) hx hb hr (fun t ht hW => ⟨⟨_, (), rfl, rfl, by rw [ht]; exact hP, hD⟩, hS.F ht⟩) hS.2.2 dX5_replyTo_75
  have h := brc_ff h hc9_0
  by_cases hc9_1 : (x1 &&& (15 : Int32)) = (1 : Int32)
  · have h := brc_tt h hc9_1
    refine lv_tableIn (tgt := 100) (off := 91) hx hb dX5_replyTo_9 (by rw [hc9_1]; decide) (by rw [hc9_1]; decide) (by rw [hc9_1]; rfl) (by decide) ?_
    refine lv_bipush (v := (15 : Int32)) hx hb dX5_replyTo_100 (by decide) ?_
    obtain rfl := Option.some.inj h
    exact W.iret (v := (15 : Int32)) hx hb hr (fun t ht hW => ⟨⟨_, (), rfl, rfl, by rw [ht]; exact hP, hD⟩, hS.F ht⟩) hS.2.2 dX5_replyTo_102
  have h := brc_ff h hc9_1
  by_cases hc9_2 : (x1 &&& (15 : Int32)) = (2 : Int32)
  · have h := brc_tt h hc9_2
    refine lv_tableIn (tgt := 76) (off := 67) hx hb dX5_replyTo_9 (by rw [hc9_2]; decide) (by rw [hc9_2]; decide) (by rw [hc9_2]; rfl) (by decide) ?_
    refine lv_aload_n hx hb dX5_replyTo_76 rfl (lv_at hl 0 rfl) ?_
    refine lv_iload_n hx hb dX5_replyTo_77 rfl (lv_at hl 1 rfl) ?_
    refine lv_iconst (v := (0 : Int32)) hx hb dX5_replyTo_78 (by decide) ?_
    obtain ⟨u1, hu1, h⟩ := bnd_some h
    have hPc := hP.sub (ws' := (wdX5_replyToCounted G a_t t_wasReset t_nextCount (0 : Int32))) [0] rfl
    have hDc := hD.sub (ws' := (wdX5_replyToCounted G a_t t_wasReset t_nextCount (0 : Int32))) [0] (by decide) rfl
    refine g_i (wc := (wdX5_replyToCounted G a_t t_wasReset t_nextCount (0 : Int32))) (w1 := (wdX5_replyToCounted G a_t t_wasReset u1.2.1 u1.2.2)) (w2 := (wdX5_replyTo G a_t t_wasReset u1.2.1 u1.2.2)) (va_runV (As := [.int x1, .int (0 : Int32)]) (rest := []) ⟨hx, hb, hml, hown, hts⟩ (mX5_replyToCounted l G a_t t_wasReset x1 (0 : Int32) t_nextCount (0 : Int32) H.size u1 hu1) ⟨(callB_of 2 hts (bgIn kw477) rfl rfl rfl (hB _ kw48) (hB _ kw474) hdX5_replyToCounted ⟨(Nat.le_of_ble_eq_true rfl), (Nat.le_of_ble_eq_true rfl)⟩), hB _ kw476, hB _ kw8⟩ (gPreV (ci := 5) (qr := 0) hK hPc hDc rfl rfl rfl) rfl rfl hl.1 rfl (lv_room (Nat.le_of_ble_eq_true rfl)) dX5_replyTo_79 ⟨(Nat.le_of_ble_eq_true rfl), (Nat.le_of_ble_eq_true rfl)⟩) hP hD hS hA [0] rfl rfl [.inr 0] rfl rfl (fun H locs hP hD hS => ?_)
    obtain rfl := Option.some.inj h
    exact W.iret (v := u1.1) hx hb hr (fun t ht hW => ⟨⟨_, (), rfl, rfl, by rw [ht]; exact hP, hD⟩, hS.F ht⟩) hS.2.2 dX5_replyTo_82
  have h := brc_ff h hc9_2
  by_cases hc9_3 : (x1 &&& (15 : Int32)) = (3 : Int32)
  · have h := brc_tt h hc9_3
    refine lv_tableIn (tgt := 83) (off := 74) hx hb dX5_replyTo_9 (by rw [hc9_3]; decide) (by rw [hc9_3]; decide) (by rw [hc9_3]; rfl) (by decide) ?_
    refine lv_aload_n hx hb dX5_replyTo_83 rfl (lv_at hl 0 rfl) ?_
    refine lv_iload_n hx hb dX5_replyTo_84 rfl (lv_at hl 1 rfl) ?_
    refine lv_iconst (v := (1 : Int32)) hx hb dX5_replyTo_85 (by decide) ?_
    obtain ⟨u2, hu2, h⟩ := bnd_some h
    have hPc := hP.sub (ws' := (wdX5_replyToCounted G a_t t_wasReset t_nextCount (0 : Int32))) [0] rfl
    have hDc := hD.sub (ws' := (wdX5_replyToCounted G a_t t_wasReset t_nextCount (0 : Int32))) [0] (by decide) rfl
    refine g_i (wc := (wdX5_replyToCounted G a_t t_wasReset t_nextCount (0 : Int32))) (w1 := (wdX5_replyToCounted G a_t t_wasReset u2.2.1 u2.2.2)) (w2 := (wdX5_replyTo G a_t t_wasReset u2.2.1 u2.2.2)) (va_runV (As := [.int x1, .int (1 : Int32)]) (rest := []) ⟨hx, hb, hml, hown, hts⟩ (mX5_replyToCounted l G a_t t_wasReset x1 (1 : Int32) t_nextCount (0 : Int32) H.size u2 hu2) ⟨(callB_of 2 hts (bgIn kw477) rfl rfl rfl (hB _ kw48) (hB _ kw474) hdX5_replyToCounted ⟨(Nat.le_of_ble_eq_true rfl), (Nat.le_of_ble_eq_true rfl)⟩), hB _ kw476, hB _ kw8⟩ (gPreV (ci := 5) (qr := 0) hK hPc hDc rfl rfl rfl) rfl rfl hl.1 rfl (lv_room (Nat.le_of_ble_eq_true rfl)) dX5_replyTo_86 ⟨(Nat.le_of_ble_eq_true rfl), (Nat.le_of_ble_eq_true rfl)⟩) hP hD hS hA [0] rfl rfl [.inr 0] rfl rfl (fun H locs hP hD hS => ?_)
    obtain rfl := Option.some.inj h
    exact W.iret (v := u2.1) hx hb hr (fun t ht hW => ⟨⟨_, (), rfl, rfl, by rw [ht]; exact hP, hD⟩, hS.F ht⟩) hS.2.2 dX5_replyTo_89
  have h := brc_ff h hc9_3
  by_cases hc9_4 : (x1 &&& (15 : Int32)) = (4 : Int32)
  · have h := brc_tt h hc9_4
    refine lv_tableIn (tgt := 90) (off := 81) hx hb dX5_replyTo_9 (by rw [hc9_4]; decide) (by rw [hc9_4]; decide) (by rw [hc9_4]; rfl) (by decide) ?_
    refine lv_aload_n hx hb dX5_replyTo_90 rfl (lv_at hl 0 rfl) ?_
    refine lv_iconst (v := (1 : Int32)) hx hb dX5_replyTo_91 (by decide) ?_
    refine va_put (D := G.1) (ci := 5) (v := .int (1 : Int32)) (ty := .boolean) (C := RX5) (T := TX5) (N := 3) hx hb hB iX5 tyX5 tyX5_ok nmX5 hown hK.1 hP hD hS 0 rfl rfl 2 (by decide) (hB _ kw110) (fun _ h9 => h9) rfl (by decide +kernel) (isB_nar (Or.inr rfl)) (isB_fit (Or.inr rfl)) (Nat.le_of_ble_eq_true rfl) dX5_replyTo_92 (fun H locs hP hD hS => ?_)
    have hP : va_P G.1 vwCl (wdX5_replyTo G a_t t_wasReset t_nextCount (1 : Int32)) H := hP
    have hD : va_D A (wdX5_replyTo G a_t t_wasReset t_nextCount (1 : Int32)) := hD
    refine lv_iconst (v := (-1 : Int32)) hx hb dX5_replyTo_95 (by decide) ?_
    obtain rfl := Option.some.inj h
    exact W.iret (v := (-1 : Int32)) hx hb hr (fun t ht hW => ⟨⟨_, (), rfl, rfl, by rw [ht]; exact hP, hD⟩, hS.F ht⟩) hS.2.2 dX5_replyTo_96
  have h := brc_ff h hc9_4
  by_cases hc9_5 : (x1 &&& (15 : Int32)) = (5 : Int32)
  · have h := brc_tt h hc9_5
    refine lv_tableIn (tgt := 100) (off := 91) hx hb dX5_replyTo_9 (by rw [hc9_5]; decide) (by rw [hc9_5]; decide) (by rw [hc9_5]; rfl) (by decide) ?_
    refine lv_bipush (v := (15 : Int32)) hx hb dX5_replyTo_100 (by decide) ?_
    obtain rfl := Option.some.inj h
    exact W.iret (v := (15 : Int32)) hx hb hr (fun t ht hW => ⟨⟨_, (), rfl, rfl, by rw [ht]; exact hP, hD⟩, hS.F ht⟩) hS.2.2 dX5_replyTo_102
  have h := brc_ff h hc9_5
  by_cases hc9_6 : (x1 &&& (15 : Int32)) = (6 : Int32)
  · have h := brc_tt h hc9_6
    refine lv_tableIn (tgt := 100) (off := 91) hx hb dX5_replyTo_9 (by rw [hc9_6]; decide) (by rw [hc9_6]; decide) (by rw [hc9_6]; rfl) (by decide) ?_
    refine lv_bipush (v := (15 : Int32)) hx hb dX5_replyTo_100 (by decide) ?_
    obtain rfl := Option.some.inj h
    exact W.iret (v := (15 : Int32)) hx hb hr (fun t ht hW => ⟨⟨_, (), rfl, rfl, by rw [ht]; exact hP, hD⟩, hS.F ht⟩) hS.2.2 dX5_replyTo_102
  have h := brc_ff h hc9_6
  by_cases hc9_7 : (x1 &&& (15 : Int32)) = (7 : Int32)
  · have h := brc_tt h hc9_7
    refine lv_tableIn (tgt := 100) (off := 91) hx hb dX5_replyTo_9 (by rw [hc9_7]; decide) (by rw [hc9_7]; decide) (by rw [hc9_7]; rfl) (by decide) ?_
    refine lv_bipush (v := (15 : Int32)) hx hb dX5_replyTo_100 (by decide) ?_
    obtain rfl := Option.some.inj h
    exact W.iret (v := (15 : Int32)) hx hb hr (fun t ht hW => ⟨⟨_, (), rfl, rfl, by rw [ht]; exact hP, hD⟩, hS.F ht⟩) hS.2.2 dX5_replyTo_102
  have h := brc_ff h hc9_7
  by_cases hc9_8 : (x1 &&& (15 : Int32)) = (8 : Int32)
  · have h := brc_tt h hc9_8
    refine lv_tableIn (tgt := 100) (off := 91) hx hb dX5_replyTo_9 (by rw [hc9_8]; decide) (by rw [hc9_8]; decide) (by rw [hc9_8]; rfl) (by decide) ?_
    refine lv_bipush (v := (15 : Int32)) hx hb dX5_replyTo_100 (by decide) ?_
    obtain rfl := Option.some.inj h
    exact W.iret (v := (15 : Int32)) hx hb hr (fun t ht hW => ⟨⟨_, (), rfl, rfl, by rw [ht]; exact hP, hD⟩, hS.F ht⟩) hS.2.2 dX5_replyTo_102
  have h := brc_ff h hc9_8
  by_cases hc9_9 : (x1 &&& (15 : Int32)) = (9 : Int32)
  · have h := brc_tt h hc9_9
    refine lv_tableIn (tgt := 97) (off := 88) hx hb dX5_replyTo_9 (by rw [hc9_9]; decide) (by rw [hc9_9]; decide) (by rw [hc9_9]; rfl) (by decide) ?_
    refine lv_bipush (v := (11 : Int32)) hx hb dX5_replyTo_97 (by decide) ?_
    obtain rfl := Option.some.inj h
    exact W.iret (v := (11 : Int32)) hx hb hr (fun t ht hW => ⟨⟨_, (), rfl, rfl, by rw [ht]; exact hP, hD⟩, hS.F ht⟩) hS.2.2 dX5_replyTo_99
  have h := brc_ff h hc9_9
  have hn9_0 := lv_neT hc9_0 (a := 0) (by decide)
  have hn9_1 := lv_neT hc9_1 (a := 1) (by decide)
  have hn9_2 := lv_neT hc9_2 (a := 2) (by decide)
  have hn9_3 := lv_neT hc9_3 (a := 3) (by decide)
  have hn9_4 := lv_neT hc9_4 (a := 4) (by decide)
  have hn9_5 := lv_neT hc9_5 (a := 5) (by decide)
  have hn9_6 := lv_neT hc9_6 (a := 6) (by decide)
  have hn9_7 := lv_neT hc9_7 (a := 7) (by decide)
  have hn9_8 := lv_neT hc9_8 (a := 8) (by decide)
  have hn9_9 := lv_neT hc9_9 (a := 9) (by decide)
  refine lv_tableOut (tgt := 100) hx hb dX5_replyTo_9 (by omega) (by decide) ?_
  refine lv_bipush (v := (15 : Int32)) hx hb dX5_replyTo_100 (by decide) ?_
  obtain rfl := Option.some.inj h
  exact W.iret (v := (15 : Int32)) hx hb hr (fun t ht hW => ⟨⟨_, (), rfl, rfl, by rw [ht]; exact hP, hD⟩, hS.F ht⟩) hS.2.2 dX5_replyTo_102
set_option maxHeartbeats 4000000 in
set_option maxRecDepth 100000 in
theorem mX5_replyTo (l : Launch) (G : GT) (a_t : Nat) (x1 : Int32) (t_wasReset : Int32) (t_nextCount : Int32) (t_taking : Int32) (sz : Nat) (out : Int32 × Int32 × Int32 × Int32) (h : fX5_replyTo x1 t_wasReset t_nextCount t_taking = some out) : Met l yX5_replyTo wsX5_replyTo rmX5_replyTo (gPc G [.ref a_t, .int x1] sz (wdX5_replyTo G a_t t_wasReset t_nextCount t_taking)) (gQi G (va_A (wdX5_replyTo G a_t t_wasReset t_nextCount t_taking) sz) out.1 (wdX5_replyTo G a_t out.2.1 out.2.2.1 out.2.2.2)) 0 0 (va_A (wdX5_replyTo G a_t t_wasReset t_nextCount t_taking) sz) := by
  refine Met.ofW (cc := cX5_replyTo) (maxL := 2) (ret := (some .int)) (by decide) rfl ?_
  intro p e s m args below meth c s₁ B hml hv
  obtain ⟨rfl, hsz, hP, hK, hD0⟩ := hv
  have hts := atoms_spec (ws := wsX5_replyTo) B.pre
  have hown : s.vm.findClass "OutStation$Link" = some m.cls := findClass_of_methodNamed B.named
  subst hsz
  have hD := hD0.self (sz := s.heap.size)
  generalize hAe : va_A (wdX5_replyTo G a_t t_wasReset t_nextCount t_taking) s.heap.size = A at hD ⊢
  have hA : ∀ q : Nat, s.heap.size ≤ q → A q := fun q h => by rw [← hAe]; exact Or.inr h
  have hS : va_S A s.heap s.heap [] := va_S.rf
  have hl := lv_entry ([.ref a_t, .int x1]) (n := 2) (Nat.le_of_ble_eq_true rfl)
  rw [lg_entry_eq]
  generalize (lg_sl ([.ref a_t, .int x1]) ++ List.replicate (2 - (lg_sl ([.ref a_t, .int x1])).length) Slot.unset).toArray = ls at hl ⊢
  exact wX5_replyTo_E ⟨B.exec, B.bytes, B.returns, hml, hown, hts, B.notSynchronized, hA, hK⟩ x1 t_wasReset t_nextCount t_taking _ _ _ h hP hD hS hl
