/-! ### OutStation$Points.isOn (I)Z -/
abbrev wdX7_isOn (G : GT) (a_t : Nat) (a_t_on : Nat) (a_t_values : Nat) (a_t_reported : Nat) (a_t_bands : Nat) (a_t_binaryClasses : Nat) (a_t_analogClasses : Nat) (t_on : Nat → Int32) : va_W := [(a_t, .inr (7, [.ref a_t_on, .ref a_t_values, .ref a_t_reported, .ref a_t_bands, .ref a_t_binaryClasses, .ref a_t_analogClasses])), (a_t_on, .inl (G.2.2.1, 16, .inl t_on))]
abbrev wsX7_isOn : List Cond := .code yX7_isOn cX7_isOn 2 (some .boolean) :: BG
abbrev rmX7_isOn : Room := { frames := 0, cells := 0, slots := 0, locals := 0 }
noncomputable def fX7_isOn (t_on : Nat → Int32) (x1 : Int32) : Option (Int32) := grd (vp_in x1 16) (grd (isB (t_on (ix x1))) (some ((t_on (ix x1)))))
set_option maxHeartbeats 4000000 in
set_option maxRecDepth 100000 in
theorem wX7_isOn_E {p : Program} {l : Launch} {e : Env} {s : State} {m : MethodId} {args : Array Value} {below : List Frame} {meth : Method} {c : Code} {G : GT} {A : Nat → Prop} (C : cxt p s m args meth c cX7_isOn (some .boolean) 2 "OutStation$Points" wsX7_isOn G A) {a_t : Nat} {a_t_on : Nat} {a_t_values : Nat} {a_t_reported : Nat} {a_t_bands : Nat} {a_t_binaryClasses : Nat} {a_t_analogClasses : Nat} {t_on : Nat → Int32} {out : Int32} : ∀ (x1 : Int32) (H : Heap) (locs : List Loc) (ls : Array Slot), fX7_isOn t_on x1 = some out → va_P G.1 vwCl (wdX7_isOn G a_t a_t_on a_t_values a_t_reported a_t_bands a_t_binaryClasses a_t_analogClasses t_on) H → va_D A (wdX7_isOn G a_t a_t_on a_t_values a_t_reported a_t_bands a_t_binaryClasses a_t_analogClasses t_on) → va_S A s.heap H locs → lv_has ls 2 [(0, .ref a_t), (1, .int x1)] → W p l e rmX7_isOn s m args below meth c H locs 0 0 (MQ below (gQi G A out (wdX7_isOn G a_t a_t_on a_t_values a_t_reported a_t_bands a_t_binaryClasses a_t_analogClasses t_on)) args s 0 0 A) (F0 m 0 ls []) := by
  obtain ⟨hx, hb, hr, hml, hown, hts, hlocks, hA, hK⟩ := id C
  have hB : ∀ w ∈ BG, w.before args s = true := fun w h => hts w (List.mem_cons_of_mem _ h)
  intro x1 H locs ls h hP hD hS hl
  unfold fX7_isOn at h
  refine lv_aload_n hx hb dX7_isOn_0 rfl (lv_at hl 0 rfl) ?_
  refine va_get (D := G.1) (ci := 7) (v := .ref a_t_on) (C := RX7) (T := TX7) (N := 6) hx hb hB iX7 hown hK.1 hP 0 rfl rfl 0 (by decide) (hB _ kw196) (fun _ h9 => h9) rfl dX7_isOn_1 ?_
  refine lv_iload_n hx hb dX7_isOn_4 rfl (lv_at hl 1 rfl) ?_
  obtain ⟨hg1, h⟩ := grd_some h
  refine va_zald hx hb hK.1 hP 1 1 rfl rfl hg1 dX7_isOn_5 ?_
  obtain ⟨hg2, h⟩ := grd_some h
  obtain rfl := Option.some.inj h
  exact W.zret (v := (t_on (ix x1))) hx hb hr (isB_nar hg2) (fun t ht hW => ⟨⟨_, (), rfl, rfl, by rw [ht]; exact hP, hD⟩, hS.F ht⟩) hS.2.2 dX7_isOn_6
set_option maxHeartbeats 4000000 in
set_option maxRecDepth 100000 in
theorem mX7_isOn (l : Launch) (G : GT) (a_t : Nat) (a_t_on : Nat) (a_t_values : Nat) (a_t_reported : Nat) (a_t_bands : Nat) (a_t_binaryClasses : Nat) (a_t_analogClasses : Nat) (t_on : Nat → Int32) (x1 : Int32) (sz : Nat) (out : Int32) (h : fX7_isOn t_on x1 = some out) : Met l yX7_isOn wsX7_isOn rmX7_isOn (gPc G [.ref a_t, .int x1] sz (wdX7_isOn G a_t a_t_on a_t_values a_t_reported a_t_bands a_t_binaryClasses a_t_analogClasses t_on)) (gQi G (va_A (wdX7_isOn G a_t a_t_on a_t_values a_t_reported a_t_bands a_t_binaryClasses a_t_analogClasses t_on) sz) out (wdX7_isOn G a_t a_t_on a_t_values a_t_reported a_t_bands a_t_binaryClasses a_t_analogClasses t_on)) 0 0 (va_A (wdX7_isOn G a_t a_t_on a_t_values a_t_reported a_t_bands a_t_binaryClasses a_t_analogClasses t_on) sz) := by
  refine Met.ofW (cc := cX7_isOn) (maxL := 2) (ret := (some .boolean)) (by decide) rfl ?_
  intro p e s m args below meth c s₁ B hml hv
  obtain ⟨rfl, hsz, hP, hK, hD0⟩ := hv
  have hts := atoms_spec (ws := wsX7_isOn) B.pre
  have hown : s.vm.findClass "OutStation$Points" = some m.cls := findClass_of_methodNamed B.named
  subst hsz
  have hD := hD0.self (sz := s.heap.size)
  generalize hAe : va_A (wdX7_isOn G a_t a_t_on a_t_values a_t_reported a_t_bands a_t_binaryClasses a_t_analogClasses t_on) s.heap.size = A at hD ⊢
  have hA : ∀ q : Nat, s.heap.size ≤ q → A q := fun q h => by rw [← hAe]; exact Or.inr h
  have hS : va_S A s.heap s.heap [] := va_S.rf
  have hl := lv_entry ([.ref a_t, .int x1]) (n := 2) (Nat.le_of_ble_eq_true rfl)
  rw [lg_entry_eq]
  generalize (lg_sl ([.ref a_t, .int x1]) ++ List.replicate (2 - (lg_sl ([.ref a_t, .int x1])).length) Slot.unset).toArray = ls at hl ⊢
  exact wX7_isOn_E ⟨B.exec, B.bytes, B.returns, hml, hown, hts, B.notSynchronized, hA, hK⟩ x1 _ _ _ h hP hD hS hl
/-! ### OutStation$Points.valueOf (I)I -/
abbrev wdX7_valueOf (G : GT) (a_t : Nat) (a_t_values : Nat) (a_t_on : Nat) (a_t_reported : Nat) (a_t_bands : Nat) (a_t_binaryClasses : Nat) (a_t_analogClasses : Nat) (t_values : Nat → Int32) : va_W := [(a_t, .inr (7, [.ref a_t_on, .ref a_t_values, .ref a_t_reported, .ref a_t_bands, .ref a_t_binaryClasses, .ref a_t_analogClasses])), (a_t_values, .inl (G.2.1, 16, .inl t_values))]
abbrev wsX7_valueOf : List Cond := .code yX7_valueOf cX7_valueOf 2 (some .int) :: BG
abbrev rmX7_valueOf : Room := { frames := 0, cells := 0, slots := 0, locals := 0 }
noncomputable def fX7_valueOf (t_values : Nat → Int32) (x1 : Int32) : Option (Int32) := grd (vp_in x1 16) (some ((t_values (ix x1))))
set_option maxHeartbeats 4000000 in
set_option maxRecDepth 100000 in
theorem wX7_valueOf_E {p : Program} {l : Launch} {e : Env} {s : State} {m : MethodId} {args : Array Value} {below : List Frame} {meth : Method} {c : Code} {G : GT} {A : Nat → Prop} (C : cxt p s m args meth c cX7_valueOf (some .int) 2 "OutStation$Points" wsX7_valueOf G A) {a_t : Nat} {a_t_values : Nat} {a_t_on : Nat} {a_t_reported : Nat} {a_t_bands : Nat} {a_t_binaryClasses : Nat} {a_t_analogClasses : Nat} {t_values : Nat → Int32} {out : Int32} : ∀ (x1 : Int32) (H : Heap) (locs : List Loc) (ls : Array Slot), fX7_valueOf t_values x1 = some out → va_P G.1 vwCl (wdX7_valueOf G a_t a_t_values a_t_on a_t_reported a_t_bands a_t_binaryClasses a_t_analogClasses t_values) H → va_D A (wdX7_valueOf G a_t a_t_values a_t_on a_t_reported a_t_bands a_t_binaryClasses a_t_analogClasses t_values) → va_S A s.heap H locs → lv_has ls 2 [(0, .ref a_t), (1, .int x1)] → W p l e rmX7_valueOf s m args below meth c H locs 0 0 (MQ below (gQi G A out (wdX7_valueOf G a_t a_t_values a_t_on a_t_reported a_t_bands a_t_binaryClasses a_t_analogClasses t_values)) args s 0 0 A) (F0 m 0 ls []) := by
  obtain ⟨hx, hb, hr, hml, hown, hts, hlocks, hA, hK⟩ := id C
  have hB : ∀ w ∈ BG, w.before args s = true := fun w h => hts w (List.mem_cons_of_mem _ h)
  intro x1 H locs ls h hP hD hS hl
  unfold fX7_valueOf at h
  refine lv_aload_n hx hb dX7_valueOf_0 rfl (lv_at hl 0 rfl) ?_
  refine va_get (D := G.1) (ci := 7) (v := .ref a_t_values) (C := RX7) (T := TX7) (N := 6) hx hb hB iX7 hown hK.1 hP 0 rfl rfl 1 (by decide) (hB _ kw197) (fun _ h9 => h9) rfl dX7_valueOf_1 ?_
  refine lv_iload_n hx hb dX7_valueOf_4 rfl (lv_at hl 1 rfl) ?_
  obtain ⟨hg1, h⟩ := grd_some h
  refine va_iald hx hb hK.1 hP 1 0 rfl rfl hg1 dX7_valueOf_5 ?_
  obtain rfl := Option.some.inj h
  exact W.iret (v := (t_values (ix x1))) hx hb hr (fun t ht hW => ⟨⟨_, (), rfl, rfl, by rw [ht]; exact hP, hD⟩, hS.F ht⟩) hS.2.2 dX7_valueOf_6
set_option maxHeartbeats 4000000 in
set_option maxRecDepth 100000 in
theorem mX7_valueOf (l : Launch) (G : GT) (a_t : Nat) (a_t_values : Nat) (a_t_on : Nat) (a_t_reported : Nat) (a_t_bands : Nat) (a_t_binaryClasses : Nat) (a_t_analogClasses : Nat) (t_values : Nat → Int32) (x1 : Int32) (sz : Nat) (out : Int32) (h : fX7_valueOf t_values x1 = some out) : Met l yX7_valueOf wsX7_valueOf rmX7_valueOf (gPc G [.ref a_t, .int x1] sz (wdX7_valueOf G a_t a_t_values a_t_on a_t_reported a_t_bands a_t_binaryClasses a_t_analogClasses t_values)) (gQi G (va_A (wdX7_valueOf G a_t a_t_values a_t_on a_t_reported a_t_bands a_t_binaryClasses a_t_analogClasses t_values) sz) out (wdX7_valueOf G a_t a_t_values a_t_on a_t_reported a_t_bands a_t_binaryClasses a_t_analogClasses t_values)) 0 0 (va_A (wdX7_valueOf G a_t a_t_values a_t_on a_t_reported a_t_bands a_t_binaryClasses a_t_analogClasses t_values) sz) := by
  refine Met.ofW (cc := cX7_valueOf) (maxL := 2) (ret := (some .int)) (by decide) rfl ?_
  intro p e s m args below meth c s₁ B hml hv
  obtain ⟨rfl, hsz, hP, hK, hD0⟩ := hv
  have hts := atoms_spec (ws := wsX7_valueOf) B.pre
  have hown : s.vm.findClass "OutStation$Points" = some m.cls := findClass_of_methodNamed B.named
  subst hsz
  have hD := hD0.self (sz := s.heap.size)
  generalize hAe : va_A (wdX7_valueOf G a_t a_t_values a_t_on a_t_reported a_t_bands a_t_binaryClasses a_t_analogClasses t_values) s.heap.size = A at hD ⊢
  have hA : ∀ q : Nat, s.heap.size ≤ q → A q := fun q h => by rw [← hAe]; exact Or.inr h
  have hS : va_S A s.heap s.heap [] := va_S.rf
  have hl := lv_entry ([.ref a_t, .int x1]) (n := 2) (Nat.le_of_ble_eq_true rfl)
  rw [lg_entry_eq]
  generalize (lg_sl ([.ref a_t, .int x1]) ++ List.replicate (2 - (lg_sl ([.ref a_t, .int x1])).length) Slot.unset).toArray = ls at hl ⊢
  exact wX7_valueOf_E ⟨B.exec, B.bytes, B.returns, hml, hown, hts, B.notSynchronized, hA, hK⟩ x1 _ _ _ h hP hD hS hl
/-! ### OutStation$Points.classOf (II)I -/
abbrev wdX7_classOf (G : GT) (a_t : Nat) (a_t_analogClasses : Nat) (a_t_binaryClasses : Nat) (a_t_on : Nat) (a_t_values : Nat) (a_t_reported : Nat) (a_t_bands : Nat) (t_analogClasses : Nat → Int32) (t_binaryClasses : Nat → Int32) : va_W := [(a_t, .inr (7, [.ref a_t_on, .ref a_t_values, .ref a_t_reported, .ref a_t_bands, .ref a_t_binaryClasses, .ref a_t_analogClasses])), (a_t_analogClasses, .inl (G.2.1, 16, .inl t_analogClasses)), (a_t_binaryClasses, .inl (G.2.1, 16, .inl t_binaryClasses))]
abbrev wsX7_classOf : List Cond := .code yX7_classOf cX7_classOf 3 (some .int) :: BG
abbrev rmX7_classOf : Room := { frames := 0, cells := 0, slots := 0, locals := 0 }
noncomputable def fX7_classOf_L19 (t_analogClasses : Nat → Int32) (t_binaryClasses : Nat → Int32) (s0 : Int32) : Option (Int32) := some (s0)
set_option maxHeartbeats 4000000 in
set_option maxRecDepth 100000 in
theorem wX7_classOf_L19 {p : Program} {l : Launch} {e : Env} {s : State} {m : MethodId} {args : Array Value} {below : List Frame} {meth : Method} {c : Code} {G : GT} {A : Nat → Prop} (C : cxt p s m args meth c cX7_classOf (some .int) 3 "OutStation$Points" wsX7_classOf G A) {a_t : Nat} {a_t_analogClasses : Nat} {a_t_binaryClasses : Nat} {a_t_on : Nat} {a_t_values : Nat} {a_t_reported : Nat} {a_t_bands : Nat} {t_analogClasses : Nat → Int32} {t_binaryClasses : Nat → Int32} {out : Int32} : ∀ (s0 : Int32) (H : Heap) (locs : List Loc) (ls : Array Slot), fX7_classOf_L19 t_analogClasses t_binaryClasses s0 = some out → va_P G.1 vwCl (wdX7_classOf G a_t a_t_analogClasses a_t_binaryClasses a_t_on a_t_values a_t_reported a_t_bands t_analogClasses t_binaryClasses) H → va_D A (wdX7_classOf G a_t a_t_analogClasses a_t_binaryClasses a_t_on a_t_values a_t_reported a_t_bands t_analogClasses t_binaryClasses) → va_S A s.heap H locs → lv_has ls 3 [] → W p l e rmX7_classOf s m args below meth c H locs 0 0 (MQ below (gQi G A out (wdX7_classOf G a_t a_t_analogClasses a_t_binaryClasses a_t_on a_t_values a_t_reported a_t_bands t_analogClasses t_binaryClasses)) args s 0 0 A) (F0 m 19 ls [.int s0]) := by
  obtain ⟨hx, hb, hr, hml, hown, hts, hlocks, hA, hK⟩ := id C
  have hB : ∀ w ∈ BG, w.before args s = true := fun w h => hts w (List.mem_cons_of_mem _ h)
  intro s0 H locs ls h hP hD hS hl
  unfold fX7_classOf_L19 at h
  obtain rfl := Option.some.inj h
  exact W.iret (v := s0) hx hb hr (fun t ht hW => ⟨⟨_, (), rfl, rfl, by rw [ht]; exact hP, hD⟩, hS.F ht⟩) hS.2.2 dX7_classOf_19
noncomputable def fX7_classOf (t_analogClasses : Nat → Int32) (t_binaryClasses : Nat → Int32) (x1 : Int32) (x2 : Int32) : Option (Int32) := brc (x1 = 0) (grd (vp_in x2 16) (fX7_classOf_L19 t_analogClasses t_binaryClasses (t_binaryClasses (ix x2)))) (grd (vp_in x2 16) (fX7_classOf_L19 t_analogClasses t_binaryClasses (t_analogClasses (ix x2))))
set_option maxHeartbeats 4000000 in
set_option maxRecDepth 100000 in
theorem wX7_classOf_E {p : Program} {l : Launch} {e : Env} {s : State} {m : MethodId} {args : Array Value} {below : List Frame} {meth : Method} {c : Code} {G : GT} {A : Nat → Prop} (C : cxt p s m args meth c cX7_classOf (some .int) 3 "OutStation$Points" wsX7_classOf G A) {a_t : Nat} {a_t_analogClasses : Nat} {a_t_binaryClasses : Nat} {a_t_on : Nat} {a_t_values : Nat} {a_t_reported : Nat} {a_t_bands : Nat} {t_analogClasses : Nat → Int32} {t_binaryClasses : Nat → Int32} {out : Int32} : ∀ (x1 : Int32) (x2 : Int32) (H : Heap) (locs : List Loc) (ls : Array Slot), fX7_classOf t_analogClasses t_binaryClasses x1 x2 = some out → va_P G.1 vwCl (wdX7_classOf G a_t a_t_analogClasses a_t_binaryClasses a_t_on a_t_values a_t_reported a_t_bands t_analogClasses t_binaryClasses) H → va_D A (wdX7_classOf G a_t a_t_analogClasses a_t_binaryClasses a_t_on a_t_values a_t_reported a_t_bands t_analogClasses t_binaryClasses) → va_S A s.heap H locs → lv_has ls 3 [(0, .ref a_t), (1, .int x1), (2, .int x2)] → W p l e rmX7_classOf s m args below meth c H locs 0 0 (MQ below (gQi G A out (wdX7_classOf G a_t a_t_analogClasses a_t_binaryClasses a_t_on a_t_values a_t_reported a_t_bands t_analogClasses t_binaryClasses)) args s 0 0 A) (F0 m 0 ls []) := by
  obtain ⟨hx, hb, hr, hml, hown, hts, hlocks, hA, hK⟩ := id C
  have hB : ∀ w ∈ BG, w.before args s = true := fun w h => hts w (List.mem_cons_of_mem _ h)
  intro x1 x2 H locs ls h hP hD hS hl
  unfold fX7_classOf at h
  refine lv_iload_n hx hb dX7_classOf_0 rfl (lv_at hl 1 rfl) ?_
  refine lv_if_ne (tgt := 13) hx hb dX7_classOf_1 (by decide) (fun hc1 => ?_) (fun hc1 => ?_)
  · have h := brc_ff h hc1
    refine lv_aload_n hx hb dX7_classOf_13 rfl (lv_at hl 0 rfl) ?_
    refine va_get (D := G.1) (ci := 7) (v := .ref a_t_analogClasses) (C := RX7) (T := TX7) (N := 6) hx hb hB iX7 hown hK.1 hP 0 rfl rfl 5 (by decide) (hB _ kw201) (fun _ h9 => h9) rfl dX7_classOf_14 ?_
    refine lv_iload_n hx hb dX7_classOf_17 rfl (lv_at hl 2 rfl) ?_
    obtain ⟨hg1, h⟩ := grd_some h
    refine va_iald hx hb hK.1 hP 1 0 rfl rfl hg1 dX7_classOf_18 ?_
    exact wX7_classOf_L19 C (t_analogClasses (ix x2)) _ _ _ h hP hD hS (lv_sub hl [] rfl)
  · have h := brc_tt h hc1
    refine lv_aload_n hx hb dX7_classOf_4 rfl (lv_at hl 0 rfl) ?_
    refine va_get (D := G.1) (ci := 7) (v := .ref a_t_binaryClasses) (C := RX7) (T := TX7) (N := 6) hx hb hB iX7 hown hK.1 hP 0 rfl rfl 4 (by decide) (hB _ kw200) (fun _ h9 => h9) rfl dX7_classOf_5 ?_
    refine lv_iload_n hx hb dX7_classOf_8 rfl (lv_at hl 2 rfl) ?_
    obtain ⟨hg2, h⟩ := grd_some h
    refine va_iald hx hb hK.1 hP 2 0 rfl rfl hg2 dX7_classOf_9 ?_
    refine lv_goto (tgt := 19) hx hb dX7_classOf_10 (by decide) ?_
    exact wX7_classOf_L19 C (t_binaryClasses (ix x2)) _ _ _ h hP hD hS (lv_sub hl [] rfl)
set_option maxHeartbeats 4000000 in
set_option maxRecDepth 100000 in
theorem mX7_classOf (l : Launch) (G : GT) (a_t : Nat) (a_t_analogClasses : Nat) (a_t_binaryClasses : Nat) (a_t_on : Nat) (a_t_values : Nat) (a_t_reported : Nat) (a_t_bands : Nat) (t_analogClasses : Nat → Int32) (t_binaryClasses : Nat → Int32) (x1 : Int32) (x2 : Int32) (sz : Nat) (out : Int32) (h : fX7_classOf t_analogClasses t_binaryClasses x1 x2 = some out) : Met l yX7_classOf wsX7_classOf rmX7_classOf (gPc G [.ref a_t, .int x1, .int x2] sz (wdX7_classOf G a_t a_t_analogClasses a_t_binaryClasses a_t_on a_t_values a_t_reported a_t_bands t_analogClasses t_binaryClasses)) (gQi G (va_A (wdX7_classOf G a_t a_t_analogClasses a_t_binaryClasses a_t_on a_t_values a_t_reported a_t_bands t_analogClasses t_binaryClasses) sz) out (wdX7_classOf G a_t a_t_analogClasses a_t_binaryClasses a_t_on a_t_values a_t_reported a_t_bands t_analogClasses t_binaryClasses)) 0 0 (va_A (wdX7_classOf G a_t a_t_analogClasses a_t_binaryClasses a_t_on a_t_values a_t_reported a_t_bands t_analogClasses t_binaryClasses) sz) := by
  refine Met.ofW (cc := cX7_classOf) (maxL := 3) (ret := (some .int)) (by decide) rfl ?_
  intro p e s m args below meth c s₁ B hml hv
  obtain ⟨rfl, hsz, hP, hK, hD0⟩ := hv
  have hts := atoms_spec (ws := wsX7_classOf) B.pre
  have hown : s.vm.findClass "OutStation$Points" = some m.cls := findClass_of_methodNamed B.named
  subst hsz
  have hD := hD0.self (sz := s.heap.size)
  generalize hAe : va_A (wdX7_classOf G a_t a_t_analogClasses a_t_binaryClasses a_t_on a_t_values a_t_reported a_t_bands t_analogClasses t_binaryClasses) s.heap.size = A at hD ⊢
  have hA : ∀ q : Nat, s.heap.size ≤ q → A q := fun q h => by rw [← hAe]; exact Or.inr h
  have hS : va_S A s.heap s.heap [] := va_S.rf
  have hl := lv_entry ([.ref a_t, .int x1, .int x2]) (n := 3) (Nat.le_of_ble_eq_true rfl)
  rw [lg_entry_eq]
  generalize (lg_sl ([.ref a_t, .int x1, .int x2]) ++ List.replicate (3 - (lg_sl ([.ref a_t, .int x1, .int x2])).length) Slot.unset).toArray = ls at hl ⊢
  exact wX7_classOf_E ⟨B.exec, B.bytes, B.returns, hml, hown, hts, B.notSynchronized, hA, hK⟩ x1 x2 _ _ _ h hP hD hS hl
/-! ### OutStation$Points.changeBinary (IZ)Z -/
abbrev wdX7_changeBinary (G : GT) (a_t : Nat) (a_t_on : Nat) (a_t_values : Nat) (a_t_reported : Nat) (a_t_bands : Nat) (a_t_binaryClasses : Nat) (a_t_analogClasses : Nat) (t_on : Nat → Int32) : va_W := [(a_t, .inr (7, [.ref a_t_on, .ref a_t_values, .ref a_t_reported, .ref a_t_bands, .ref a_t_binaryClasses, .ref a_t_analogClasses])), (a_t_on, .inl (G.2.2.1, 16, .inl t_on))]
abbrev wsX7_changeBinary : List Cond := .code yX7_changeBinary cX7_changeBinary 4 (some .boolean) :: BG
abbrev rmX7_changeBinary : Room := { frames := 0, cells := 0, slots := 0, locals := 0 }
noncomputable def fX7_changeBinary_L15 (x1 : Int32) (x2 : Int32) (s0 : Int32) (t_on : Nat → Int32) : Option (Int32 × (Nat → Int32)) := grd (vp_in x1 16) (grd (isB x2) (grd (isB s0) (some (s0, (upd t_on (ix x1) x2)))))
set_option maxHeartbeats 4000000 in
set_option maxRecDepth 100000 in
theorem wX7_changeBinary_L15 {p : Program} {l : Launch} {e : Env} {s : State} {m : MethodId} {args : Array Value} {below : List Frame} {meth : Method} {c : Code} {G : GT} {A : Nat → Prop} (C : cxt p s m args meth c cX7_changeBinary (some .boolean) 4 "OutStation$Points" wsX7_changeBinary G A) {a_t : Nat} {a_t_on : Nat} {a_t_values : Nat} {a_t_reported : Nat} {a_t_bands : Nat} {a_t_binaryClasses : Nat} {a_t_analogClasses : Nat} {out : Int32 × (Nat → Int32)} : ∀ (x1 : Int32) (x2 : Int32) (s0 : Int32) (t_on : Nat → Int32) (H : Heap) (locs : List Loc) (ls : Array Slot), fX7_changeBinary_L15 x1 x2 s0 t_on = some out → va_P G.1 vwCl (wdX7_changeBinary G a_t a_t_on a_t_values a_t_reported a_t_bands a_t_binaryClasses a_t_analogClasses t_on) H → va_D A (wdX7_changeBinary G a_t a_t_on a_t_values a_t_reported a_t_bands a_t_binaryClasses a_t_analogClasses t_on) → va_S A s.heap H locs → lv_has ls 4 [(0, .ref a_t), (1, .int x1), (2, .int x2)] → W p l e rmX7_changeBinary s m args below meth c H locs 0 0 (MQ below (gQi G A out.1 (wdX7_changeBinary G a_t a_t_on a_t_values a_t_reported a_t_bands a_t_binaryClasses a_t_analogClasses out.2)) args s 0 0 A) (F0 m 15 ls [.int s0]) := by
  obtain ⟨hx, hb, hr, hml, hown, hts, hlocks, hA, hK⟩ := id C
  have hB : ∀ w ∈ BG, w.before args s = true := fun w h => hts w (List.mem_cons_of_mem _ h)
  intro x1 x2 s0 t_on H locs ls h hP hD hS hl
  unfold fX7_changeBinary_L15 at h
  refine lv_istore_n (lv' := [(3, .int s0), (0, .ref a_t), (1, .int x1), (2, .int x2)]) hx hb dX7_changeBinary_15 rfl hl (by decide) rfl (fun ls hl => ?_)
  refine lv_aload_n hx hb dX7_changeBinary_16 rfl (lv_at hl 1 rfl) ?_
  refine va_get (D := G.1) (ci := 7) (v := .ref a_t_on) (C := RX7) (T := TX7) (N := 6) hx hb hB iX7 hown hK.1 hP 0 rfl rfl 0 (by decide) (hB _ kw196) (fun _ h9 => h9) rfl dX7_changeBinary_17 ?_
  refine lv_iload_n hx hb dX7_changeBinary_20 rfl (lv_at hl 2 rfl) ?_
  refine lv_iload_n hx hb dX7_changeBinary_21 rfl (lv_at hl 3 rfl) ?_
  obtain ⟨hg1, h⟩ := grd_some h
  obtain ⟨hg2, h⟩ := grd_some h
  refine va_zast hx hb hK.1 hP hD hS 1 1 rfl rfl hg1 dX7_changeBinary_22 (fun H locs hP hD hS => ?_)
  rw [isB_vp hg2] at hP hD
  have hP : va_P G.1 vwCl (wdX7_changeBinary G a_t a_t_on a_t_values a_t_reported a_t_bands a_t_binaryClasses a_t_analogClasses (upd t_on (ix x1) x2)) H := hP
  have hD : va_D A (wdX7_changeBinary G a_t a_t_on a_t_values a_t_reported a_t_bands a_t_binaryClasses a_t_analogClasses (upd t_on (ix x1) x2)) := hD
  refine lv_iload_n hx hb dX7_changeBinary_23 rfl (lv_at hl 0 rfl) ?_
  obtain ⟨hg3, h⟩ := grd_some h
  obtain rfl := Option.some.inj h
  exact W.zret (v := s0) hx hb hr (isB_nar hg3) (fun t ht hW => ⟨⟨_, (), rfl, rfl, by rw [ht]; exact hP, hD⟩, hS.F ht⟩) hS.2.2 dX7_changeBinary_24
noncomputable def fX7_changeBinary (x1 : Int32) (x2 : Int32) (t_on : Nat → Int32) : Option (Int32 × (Nat → Int32)) := grd (vp_in x1 16) (brc ((t_on (ix x1)) = x2) (fX7_changeBinary_L15 x1 x2 (0 : Int32) t_on) (fX7_changeBinary_L15 x1 x2 (1 : Int32) t_on))
set_option maxHeartbeats 4000000 in
set_option maxRecDepth 100000 in
theorem wX7_changeBinary_E {p : Program} {l : Launch} {e : Env} {s : State} {m : MethodId} {args : Array Value} {below : List Frame} {meth : Method} {c : Code} {G : GT} {A : Nat → Prop} (C : cxt p s m args meth c cX7_changeBinary (some .boolean) 4 "OutStation$Points" wsX7_changeBinary G A) {a_t : Nat} {a_t_on : Nat} {a_t_values : Nat} {a_t_reported : Nat} {a_t_bands : Nat} {a_t_binaryClasses : Nat} {a_t_analogClasses : Nat} {out : Int32 × (Nat → Int32)} : ∀ (x1 : Int32) (x2 : Int32) (t_on : Nat → Int32) (H : Heap) (locs : List Loc) (ls : Array Slot), fX7_changeBinary x1 x2 t_on = some out → va_P G.1 vwCl (wdX7_changeBinary G a_t a_t_on a_t_values a_t_reported a_t_bands a_t_binaryClasses a_t_analogClasses t_on) H → va_D A (wdX7_changeBinary G a_t a_t_on a_t_values a_t_reported a_t_bands a_t_binaryClasses a_t_analogClasses t_on) → va_S A s.heap H locs → lv_has ls 4 [(0, .ref a_t), (1, .int x1), (2, .int x2)] → W p l e rmX7_changeBinary s m args below meth c H locs 0 0 (MQ below (gQi G A out.1 (wdX7_changeBinary G a_t a_t_on a_t_values a_t_reported a_t_bands a_t_binaryClasses a_t_analogClasses out.2)) args s 0 0 A) (F0 m 0 ls []) := by
  obtain ⟨hx, hb, hr, hml, hown, hts, hlocks, hA, hK⟩ := id C
  have hB : ∀ w ∈ BG, w.before args s = true := fun w h => hts w (List.mem_cons_of_mem _ h)
  intro x1 x2 t_on H locs ls h hP hD hS hl
  unfold fX7_changeBinary at h
  refine lv_aload_n hx hb dX7_changeBinary_0 rfl (lv_at hl 0 rfl) ?_
  refine va_get (D := G.1) (ci := 7) (v := .ref a_t_on) (C := RX7) (T := TX7) (N := 6) hx hb hB iX7 hown hK.1 hP 0 rfl rfl 0 (by decide) (hB _ kw196) (fun _ h9 => h9) rfl dX7_changeBinary_1 ?_
  refine lv_iload_n hx hb dX7_changeBinary_4 rfl (lv_at hl 1 rfl) ?_
  obtain ⟨hg1, h⟩ := grd_some h
  refine va_zald hx hb hK.1 hP 1 1 rfl rfl hg1 dX7_changeBinary_5 ?_
  refine lv_iload_n hx hb dX7_changeBinary_6 rfl (lv_at hl 2 rfl) ?_
  refine lv_icmp_eq (tgt := 14) hx hb dX7_changeBinary_7 (by decide) (fun hc7 => ?_) (fun hc7 => ?_)
  · have h := brc_tt h hc7
    refine lv_iconst (v := (0 : Int32)) hx hb dX7_changeBinary_14 (by decide) ?_
    exact wX7_changeBinary_L15 C x1 x2 (0 : Int32) t_on _ _ _ h hP hD hS (lv_sub hl [0, 1, 2] rfl)
  · have h := brc_ff h hc7
    refine lv_iconst (v := (1 : Int32)) hx hb dX7_changeBinary_10 (by decide) ?_
    refine lv_goto (tgt := 15) hx hb dX7_changeBinary_11 (by decide) ?_
    exact wX7_changeBinary_L15 C x1 x2 (1 : Int32) t_on _ _ _ h hP hD hS (lv_sub hl [0, 1, 2] rfl)
set_option maxHeartbeats 4000000 in
set_option maxRecDepth 100000 in
theorem mX7_changeBinary (l : Launch) (G : GT) (a_t : Nat) (a_t_on : Nat) (a_t_values : Nat) (a_t_reported : Nat) (a_t_bands : Nat) (a_t_binaryClasses : Nat) (a_t_analogClasses : Nat) (x1 : Int32) (x2 : Int32) (t_on : Nat → Int32) (sz : Nat) (out : Int32 × (Nat → Int32)) (h : fX7_changeBinary x1 x2 t_on = some out) : Met l yX7_changeBinary wsX7_changeBinary rmX7_changeBinary (gPc G [.ref a_t, .int x1, .int x2] sz (wdX7_changeBinary G a_t a_t_on a_t_values a_t_reported a_t_bands a_t_binaryClasses a_t_analogClasses t_on)) (gQi G (va_A (wdX7_changeBinary G a_t a_t_on a_t_values a_t_reported a_t_bands a_t_binaryClasses a_t_analogClasses t_on) sz) out.1 (wdX7_changeBinary G a_t a_t_on a_t_values a_t_reported a_t_bands a_t_binaryClasses a_t_analogClasses out.2)) 0 0 (va_A (wdX7_changeBinary G a_t a_t_on a_t_values a_t_reported a_t_bands a_t_binaryClasses a_t_analogClasses t_on) sz) := by
  refine Met.ofW (cc := cX7_changeBinary) (maxL := 4) (ret := (some .boolean)) (by decide) rfl ?_
  intro p e s m args below meth c s₁ B hml hv
  obtain ⟨rfl, hsz, hP, hK, hD0⟩ := hv
  have hts := atoms_spec (ws := wsX7_changeBinary) B.pre
  have hown : s.vm.findClass "OutStation$Points" = some m.cls := findClass_of_methodNamed B.named
  subst hsz
  have hD := hD0.self (sz := s.heap.size)
  generalize hAe : va_A (wdX7_changeBinary G a_t a_t_on a_t_values a_t_reported a_t_bands a_t_binaryClasses a_t_analogClasses t_on) s.heap.size = A at hD ⊢
  have hA : ∀ q : Nat, s.heap.size ≤ q → A q := fun q h => by rw [← hAe]; exact Or.inr h
  have hS : va_S A s.heap s.heap [] := va_S.rf
  have hl := lv_entry ([.ref a_t, .int x1, .int x2]) (n := 4) (Nat.le_of_ble_eq_true rfl)
  rw [lg_entry_eq]
  generalize (lg_sl ([.ref a_t, .int x1, .int x2]) ++ List.replicate (4 - (lg_sl ([.ref a_t, .int x1, .int x2])).length) Slot.unset).toArray = ls at hl ⊢
  exact wX7_changeBinary_E ⟨B.exec, B.bytes, B.returns, hml, hown, hts, B.notSynchronized, hA, hK⟩ x1 x2 t_on _ _ _ h hP hD hS hl
/-! ### OutStation$Points.changeAnalog (II)Z -/
abbrev wdX7_changeAnalog (G : GT) (a_t : Nat) (a_t_analogClasses : Nat) (a_t_bands : Nat) (a_t_reported : Nat) (a_t_values : Nat) (a_t_on : Nat) (a_t_binaryClasses : Nat) (t_analogClasses : Nat → Int32) (t_bands : Nat → Int32) (t_reported : Nat → Int32) (t_values : Nat → Int32) : va_W := [(a_t, .inr (7, [.ref a_t_on, .ref a_t_values, .ref a_t_reported, .ref a_t_bands, .ref a_t_binaryClasses, .ref a_t_analogClasses])), (a_t_analogClasses, .inl (G.2.1, 16, .inl t_analogClasses)), (a_t_bands, .inl (G.2.1, 16, .inl t_bands)), (a_t_reported, .inl (G.2.1, 16, .inl t_reported)), (a_t_values, .inl (G.2.1, 16, .inl t_values))]
abbrev wsX7_changeAnalog : List Cond := .code yX7_changeAnalog cX7_changeAnalog 4 (some .boolean) :: BG
abbrev rmX7_changeAnalog : Room := { frames := 1, cells := 0, slots := 0, locals := 13 }
noncomputable def fX7_changeAnalog_L46 (t_analogClasses : Nat → Int32) (t_bands : Nat → Int32) (t_reported : Nat → Int32) (t_values : Nat → Int32) : Option (Int32 × (Nat → Int32) × (Nat → Int32)) := some ((0 : Int32), t_reported, t_values)
set_option maxHeartbeats 4000000 in
set_option maxRecDepth 100000 in
theorem wX7_changeAnalog_L46 {p : Program} {l : Launch} {e : Env} {s : State} {m : MethodId} {args : Array Value} {below : List Frame} {meth : Method} {c : Code} {G : GT} {A : Nat → Prop} (C : cxt p s m args meth c cX7_changeAnalog (some .boolean) 4 "OutStation$Points" wsX7_changeAnalog G A) {a_t : Nat} {a_t_analogClasses : Nat} {a_t_bands : Nat} {a_t_reported : Nat} {a_t_values : Nat} {a_t_on : Nat} {a_t_binaryClasses : Nat} {t_analogClasses : Nat → Int32} {t_bands : Nat → Int32} {out : Int32 × (Nat → Int32) × (Nat → Int32)} : ∀ (t_reported : Nat → Int32) (t_values : Nat → Int32) (H : Heap) (locs : List Loc) (ls : Array Slot), fX7_changeAnalog_L46 t_analogClasses t_bands t_reported t_values = some out → va_P G.1 vwCl (wdX7_changeAnalog G a_t a_t_analogClasses a_t_bands a_t_reported a_t_values a_t_on a_t_binaryClasses t_analogClasses t_bands t_reported t_values) H → va_D A (wdX7_changeAnalog G a_t a_t_analogClasses a_t_bands a_t_reported a_t_values a_t_on a_t_binaryClasses t_analogClasses t_bands t_reported t_values) → va_S A s.heap H locs → lv_has ls 4 [] → W p l e rmX7_changeAnalog s m args below meth c H locs 0 0 (MQ below (gQi G A out.1 (wdX7_changeAnalog G a_t a_t_analogClasses a_t_bands a_t_reported a_t_values a_t_on a_t_binaryClasses t_analogClasses t_bands out.2.1 out.2.2)) args s 0 0 A) (F0 m 46 ls []) := by
  obtain ⟨hx, hb, hr, hml, hown, hts, hlocks, hA, hK⟩ := id C
  have hB : ∀ w ∈ BG, w.before args s = true := fun w h => hts w (List.mem_cons_of_mem _ h)
  intro t_reported t_values H locs ls h hP hD hS hl
  unfold fX7_changeAnalog_L46 at h
  refine lv_iconst (v := (0 : Int32)) hx hb dX7_changeAnalog_46 (by decide) ?_
  obtain rfl := Option.some.inj h
  exact W.zret (v := (0 : Int32)) hx hb hr (isB_nar (Or.inl rfl)) (fun t ht hW => ⟨⟨_, (), rfl, rfl, by rw [ht]; exact hP, hD⟩, hS.F ht⟩) hS.2.2 dX7_changeAnalog_47
noncomputable def fX7_changeAnalog_L32 (t_analogClasses : Nat → Int32) (t_bands : Nat → Int32) (x1 : Int32) (x2 : Int32) (s0 : Int32) (t_reported : Nat → Int32) (t_values : Nat → Int32) : Option (Int32 × (Nat → Int32) × (Nat → Int32)) := grd (vp_in x1 16) (brc ((t_analogClasses (ix x1)) = 0) (fX7_changeAnalog_L46 t_analogClasses t_bands t_reported t_values) (brc (s0 = 0) (fX7_changeAnalog_L46 t_analogClasses t_bands t_reported t_values) (grd (vp_in x1 16) (some ((1 : Int32), (upd t_reported (ix x1) x2), t_values)))))
set_option maxHeartbeats 4000000 in
set_option maxRecDepth 100000 in
theorem wX7_changeAnalog_L32 {p : Program} {l : Launch} {e : Env} {s : State} {m : MethodId} {args : Array Value} {below : List Frame} {meth : Method} {c : Code} {G : GT} {A : Nat → Prop} (C : cxt p s m args meth c cX7_changeAnalog (some .boolean) 4 "OutStation$Points" wsX7_changeAnalog G A) {a_t : Nat} {a_t_analogClasses : Nat} {a_t_bands : Nat} {a_t_reported : Nat} {a_t_values : Nat} {a_t_on : Nat} {a_t_binaryClasses : Nat} {t_analogClasses : Nat → Int32} {t_bands : Nat → Int32} {out : Int32 × (Nat → Int32) × (Nat → Int32)} : ∀ (x1 : Int32) (x2 : Int32) (s0 : Int32) (t_reported : Nat → Int32) (t_values : Nat → Int32) (H : Heap) (locs : List Loc) (ls : Array Slot), fX7_changeAnalog_L32 t_analogClasses t_bands x1 x2 s0 t_reported t_values = some out → va_P G.1 vwCl (wdX7_changeAnalog G a_t a_t_analogClasses a_t_bands a_t_reported a_t_values a_t_on a_t_binaryClasses t_analogClasses t_bands t_reported t_values) H → va_D A (wdX7_changeAnalog G a_t a_t_analogClasses a_t_bands a_t_reported a_t_values a_t_on a_t_binaryClasses t_analogClasses t_bands t_reported t_values) → va_S A s.heap H locs → lv_has ls 4 [(0, .ref a_t), (1, .int x1), (2, .int x2)] → W p l e rmX7_changeAnalog s m args below meth c H locs 0 0 (MQ below (gQi G A out.1 (wdX7_changeAnalog G a_t a_t_analogClasses a_t_bands a_t_reported a_t_values a_t_on a_t_binaryClasses t_analogClasses t_bands out.2.1 out.2.2)) args s 0 0 A) (F0 m 32 ls [.int s0]) := by
  obtain ⟨hx, hb, hr, hml, hown, hts, hlocks, hA, hK⟩ := id C
  have hB : ∀ w ∈ BG, w.before args s = true := fun w h => hts w (List.mem_cons_of_mem _ h)
  intro x1 x2 s0 t_reported t_values H locs ls h hP hD hS hl
  unfold fX7_changeAnalog_L32 at h
  refine lv_istore_n (lv' := [(3, .int s0), (0, .ref a_t), (1, .int x1), (2, .int x2)]) hx hb dX7_changeAnalog_32 rfl hl (by decide) rfl (fun ls hl => ?_)
  refine lv_aload_n hx hb dX7_changeAnalog_33 rfl (lv_at hl 1 rfl) ?_
  refine va_get (D := G.1) (ci := 7) (v := .ref a_t_analogClasses) (C := RX7) (T := TX7) (N := 6) hx hb hB iX7 hown hK.1 hP 0 rfl rfl 5 (by decide) (hB _ kw201) (fun _ h9 => h9) rfl dX7_changeAnalog_34 ?_
  refine lv_iload_n hx hb dX7_changeAnalog_37 rfl (lv_at hl 2 rfl) ?_
  obtain ⟨hg1, h⟩ := grd_some h
  refine va_iald hx hb hK.1 hP 1 0 rfl rfl hg1 dX7_changeAnalog_38 ?_
  refine lv_if_eq (tgt := 46) hx hb dX7_changeAnalog_39 (by decide) (fun hc39 => ?_) (fun hc39 => ?_)
  · have h := brc_tt h hc39
    exact wX7_changeAnalog_L46 C t_reported t_values _ _ _ h hP hD hS (lv_sub hl [] rfl)
  · have h := brc_ff h hc39
    refine lv_iload_n hx hb dX7_changeAnalog_42 rfl (lv_at hl 0 rfl) ?_
    refine lv_if_ne (tgt := 48) hx hb dX7_changeAnalog_43 (by decide) (fun hc43 => ?_) (fun hc43 => ?_)
    · have h := brc_ff h hc43
      refine lv_aload_n hx hb dX7_changeAnalog_48 rfl (lv_at hl 1 rfl) ?_
      refine va_get (D := G.1) (ci := 7) (v := .ref a_t_reported) (C := RX7) (T := TX7) (N := 6) hx hb hB iX7 hown hK.1 hP 0 rfl rfl 2 (by decide) (hB _ kw198) (fun _ h9 => h9) rfl dX7_changeAnalog_49 ?_
      refine lv_iload_n hx hb dX7_changeAnalog_52 rfl (lv_at hl 2 rfl) ?_
      refine lv_iload_n hx hb dX7_changeAnalog_53 rfl (lv_at hl 3 rfl) ?_
      obtain ⟨hg2, h⟩ := grd_some h
      refine va_iast hx hb hK.1 hP hD hS 3 0 rfl rfl hg2 dX7_changeAnalog_54 (fun H locs hP hD hS => ?_)
      have hP : va_P G.1 vwCl (wdX7_changeAnalog G a_t a_t_analogClasses a_t_bands a_t_reported a_t_values a_t_on a_t_binaryClasses t_analogClasses t_bands (upd t_reported (ix x1) x2) t_values) H := hP
      have hD : va_D A (wdX7_changeAnalog G a_t a_t_analogClasses a_t_bands a_t_reported a_t_values a_t_on a_t_binaryClasses t_analogClasses t_bands (upd t_reported (ix x1) x2) t_values) := hD
      refine lv_iconst (v := (1 : Int32)) hx hb dX7_changeAnalog_55 (by decide) ?_
      obtain rfl := Option.some.inj h
      exact W.zret (v := (1 : Int32)) hx hb hr (isB_nar (Or.inr rfl)) (fun t ht hW => ⟨⟨_, (), rfl, rfl, by rw [ht]; exact hP, hD⟩, hS.F ht⟩) hS.2.2 dX7_changeAnalog_56
    · have h := brc_tt h hc43
      exact wX7_changeAnalog_L46 C t_reported t_values _ _ _ h hP hD hS (lv_sub hl [] rfl)
noncomputable def fX7_changeAnalog (t_analogClasses : Nat → Int32) (t_bands : Nat → Int32) (x1 : Int32) (x2 : Int32) (t_reported : Nat → Int32) (t_values : Nat → Int32) : Option (Int32 × (Nat → Int32) × (Nat → Int32)) := grd (vp_in x1 16) (grd (vp_in x1 16) (grd (vp_in x1 16) (brc ((if 0 ≤ (x2 - (t_reported (ix x1))) then (x2 - (t_reported (ix x1))) else 0 - (x2 - (t_reported (ix x1)))) ≤ (t_bands (ix x1))) (fX7_changeAnalog_L32 t_analogClasses t_bands x1 x2 (0 : Int32) t_reported (upd t_values (ix x1) x2)) (fX7_changeAnalog_L32 t_analogClasses t_bands x1 x2 (1 : Int32) t_reported (upd t_values (ix x1) x2)))))
set_option maxHeartbeats 4000000 in
set_option maxRecDepth 100000 in
theorem wX7_changeAnalog_E {p : Program} {l : Launch} {e : Env} {s : State} {m : MethodId} {args : Array Value} {below : List Frame} {meth : Method} {c : Code} {G : GT} {A : Nat → Prop} (C : cxt p s m args meth c cX7_changeAnalog (some .boolean) 4 "OutStation$Points" wsX7_changeAnalog G A) {a_t : Nat} {a_t_analogClasses : Nat} {a_t_bands : Nat} {a_t_reported : Nat} {a_t_values : Nat} {a_t_on : Nat} {a_t_binaryClasses : Nat} {t_analogClasses : Nat → Int32} {t_bands : Nat → Int32} {out : Int32 × (Nat → Int32) × (Nat → Int32)} : ∀ (x1 : Int32) (x2 : Int32) (t_reported : Nat → Int32) (t_values : Nat → Int32) (H : Heap) (locs : List Loc) (ls : Array Slot), fX7_changeAnalog t_analogClasses t_bands x1 x2 t_reported t_values = some out → va_P G.1 vwCl (wdX7_changeAnalog G a_t a_t_analogClasses a_t_bands a_t_reported a_t_values a_t_on a_t_binaryClasses t_analogClasses t_bands t_reported t_values) H → va_D A (wdX7_changeAnalog G a_t a_t_analogClasses a_t_bands a_t_reported a_t_values a_t_on a_t_binaryClasses t_analogClasses t_bands t_reported t_values) → va_S A s.heap H locs → lv_has ls 4 [(0, .ref a_t), (1, .int x1), (2, .int x2)] → W p l e rmX7_changeAnalog s m args below meth c H locs 0 0 (MQ below (gQi G A out.1 (wdX7_changeAnalog G a_t a_t_analogClasses a_t_bands a_t_reported a_t_values a_t_on a_t_binaryClasses t_analogClasses t_bands out.2.1 out.2.2)) args s 0 0 A) (F0 m 0 ls []) := by
  obtain ⟨hx, hb, hr, hml, hown, hts, hlocks, hA, hK⟩ := id C
  have hB : ∀ w ∈ BG, w.before args s = true := fun w h => hts w (List.mem_cons_of_mem _ h)
  intro x1 x2 t_reported t_values H locs ls h hP hD hS hl
  unfold fX7_changeAnalog at h
  refine lv_aload_n hx hb dX7_changeAnalog_0 rfl (lv_at hl 0 rfl) ?_
  refine va_get (D := G.1) (ci := 7) (v := .ref a_t_values) (C := RX7) (T := TX7) (N := 6) hx hb hB iX7 hown hK.1 hP 0 rfl rfl 1 (by decide) (hB _ kw197) (fun _ h9 => h9) rfl dX7_changeAnalog_1 ?_
  refine lv_iload_n hx hb dX7_changeAnalog_4 rfl (lv_at hl 1 rfl) ?_
  refine lv_iload_n hx hb dX7_changeAnalog_5 rfl (lv_at hl 2 rfl) ?_
  obtain ⟨hg1, h⟩ := grd_some h
  refine va_iast hx hb hK.1 hP hD hS 4 0 rfl rfl hg1 dX7_changeAnalog_6 (fun H locs hP hD hS => ?_)
  have hP : va_P G.1 vwCl (wdX7_changeAnalog G a_t a_t_analogClasses a_t_bands a_t_reported a_t_values a_t_on a_t_binaryClasses t_analogClasses t_bands t_reported (upd t_values (ix x1) x2)) H := hP
  have hD : va_D A (wdX7_changeAnalog G a_t a_t_analogClasses a_t_bands a_t_reported a_t_values a_t_on a_t_binaryClasses t_analogClasses t_bands t_reported (upd t_values (ix x1) x2)) := hD
  refine lv_iload_n hx hb dX7_changeAnalog_7 rfl (lv_at hl 2 rfl) ?_
  refine lv_aload_n hx hb dX7_changeAnalog_8 rfl (lv_at hl 0 rfl) ?_
  refine va_get (D := G.1) (ci := 7) (v := .ref a_t_reported) (C := RX7) (T := TX7) (N := 6) hx hb hB iX7 hown hK.1 hP 0 rfl rfl 2 (by decide) (hB _ kw198) (fun _ h9 => h9) rfl dX7_changeAnalog_9 ?_
  refine lv_iload_n hx hb dX7_changeAnalog_12 rfl (lv_at hl 1 rfl) ?_
  obtain ⟨hg2, h⟩ := grd_some h
  refine va_iald hx hb hK.1 hP 3 0 rfl rfl hg2 dX7_changeAnalog_13 ?_
  refine lv_isub hx hb dX7_changeAnalog_14 ?_
  refine va_mabs hx hb (hml.trans hl.1.symm) hown (hB _ kw806) (hB _ kw807) (hB _ kw54) (hB _ kw808) (Nat.le_of_ble_eq_true rfl) (Nat.le_of_ble_eq_true rfl) (Nat.le_of_ble_eq_true rfl) (Nat.le_of_ble_eq_true rfl) dX7_changeAnalog_15 ?_
  refine lv_aload_n hx hb dX7_changeAnalog_18 rfl (lv_at hl 0 rfl) ?_
  refine va_get (D := G.1) (ci := 7) (v := .ref a_t_bands) (C := RX7) (T := TX7) (N := 6) hx hb hB iX7 hown hK.1 hP 0 rfl rfl 3 (by decide) (hB _ kw199) (fun _ h9 => h9) rfl dX7_changeAnalog_19 ?_
  refine lv_iload_n hx hb dX7_changeAnalog_22 rfl (lv_at hl 1 rfl) ?_
  obtain ⟨hg3, h⟩ := grd_some h
  refine va_iald hx hb hK.1 hP 2 0 rfl rfl hg3 dX7_changeAnalog_23 ?_
  refine lv_icmp_le (tgt := 31) hx hb dX7_changeAnalog_24 (by decide) (fun hc24 => ?_) (fun hc24 => ?_)
  · have h := brc_tt h hc24
    refine lv_iconst (v := (0 : Int32)) hx hb dX7_changeAnalog_31 (by decide) ?_
    exact wX7_changeAnalog_L32 C x1 x2 (0 : Int32) t_reported (upd t_values (ix x1) x2) _ _ _ h hP hD hS (lv_sub hl [0, 1, 2] rfl)
  · have h := brc_ff h hc24
    refine lv_iconst (v := (1 : Int32)) hx hb dX7_changeAnalog_27 (by decide) ?_
    refine lv_goto (tgt := 32) hx hb dX7_changeAnalog_28 (by decide) ?_
    exact wX7_changeAnalog_L32 C x1 x2 (1 : Int32) t_reported (upd t_values (ix x1) x2) _ _ _ h hP hD hS (lv_sub hl [0, 1, 2] rfl)
set_option maxHeartbeats 4000000 in
set_option maxRecDepth 100000 in
theorem mX7_changeAnalog (l : Launch) (G : GT) (a_t : Nat) (a_t_analogClasses : Nat) (a_t_bands : Nat) (a_t_reported : Nat) (a_t_values : Nat) (a_t_on : Nat) (a_t_binaryClasses : Nat) (t_analogClasses : Nat → Int32) (t_bands : Nat → Int32) (x1 : Int32) (x2 : Int32) (t_reported : Nat → Int32) (t_values : Nat → Int32) (sz : Nat) (out : Int32 × (Nat → Int32) × (Nat → Int32)) (h : fX7_changeAnalog t_analogClasses t_bands x1 x2 t_reported t_values = some out) : Met l yX7_changeAnalog wsX7_changeAnalog rmX7_changeAnalog (gPc G [.ref a_t, .int x1, .int x2] sz (wdX7_changeAnalog G a_t a_t_analogClasses a_t_bands a_t_reported a_t_values a_t_on a_t_binaryClasses t_analogClasses t_bands t_reported t_values)) (gQi G (va_A (wdX7_changeAnalog G a_t a_t_analogClasses a_t_bands a_t_reported a_t_values a_t_on a_t_binaryClasses t_analogClasses t_bands t_reported t_values) sz) out.1 (wdX7_changeAnalog G a_t a_t_analogClasses a_t_bands a_t_reported a_t_values a_t_on a_t_binaryClasses t_analogClasses t_bands out.2.1 out.2.2)) 0 0 (va_A (wdX7_changeAnalog G a_t a_t_analogClasses a_t_bands a_t_reported a_t_values a_t_on a_t_binaryClasses t_analogClasses t_bands t_reported t_values) sz) := by
  refine Met.ofW (cc := cX7_changeAnalog) (maxL := 4) (ret := (some .boolean)) (by decide) rfl ?_
  intro p e s m args below meth c s₁ B hml hv
  obtain ⟨rfl, hsz, hP, hK, hD0⟩ := hv
  have hts := atoms_spec (ws := wsX7_changeAnalog) B.pre
  have hown : s.vm.findClass "OutStation$Points" = some m.cls := findClass_of_methodNamed B.named
  subst hsz
  have hD := hD0.self (sz := s.heap.size)
  generalize hAe : va_A (wdX7_changeAnalog G a_t a_t_analogClasses a_t_bands a_t_reported a_t_values a_t_on a_t_binaryClasses t_analogClasses t_bands t_reported t_values) s.heap.size = A at hD ⊢
  have hA : ∀ q : Nat, s.heap.size ≤ q → A q := fun q h => by rw [← hAe]; exact Or.inr h
  have hS : va_S A s.heap s.heap [] := va_S.rf
  have hl := lv_entry ([.ref a_t, .int x1, .int x2]) (n := 4) (Nat.le_of_ble_eq_true rfl)
  rw [lg_entry_eq]
  generalize (lg_sl ([.ref a_t, .int x1, .int x2]) ++ List.replicate (4 - (lg_sl ([.ref a_t, .int x1, .int x2])).length) Slot.unset).toArray = ls at hl ⊢
  exact wX7_changeAnalog_E ⟨B.exec, B.bytes, B.returns, hml, hown, hts, B.notSynchronized, hA, hK⟩ x1 x2 t_reported t_values _ _ _ h hP hD hS hl
/-! ### OutStation$Points.changeClass (III)Z -/
abbrev wdX7_changeClass (G : GT) (a_t : Nat) (a_t_analogClasses : Nat) (a_t_binaryClasses : Nat) (a_t_on : Nat) (a_t_values : Nat) (a_t_reported : Nat) (a_t_bands : Nat) (t_analogClasses : Nat → Int32) (t_binaryClasses : Nat → Int32) : va_W := [(a_t, .inr (7, [.ref a_t_on, .ref a_t_values, .ref a_t_reported, .ref a_t_bands, .ref a_t_binaryClasses, .ref a_t_analogClasses])), (a_t_analogClasses, .inl (G.2.1, 16, .inl t_analogClasses)), (a_t_binaryClasses, .inl (G.2.1, 16, .inl t_binaryClasses))]
abbrev wsX7_changeClass : List Cond := .code yX7_changeClass cX7_changeClass 6 (some .boolean) :: BG
abbrev rmX7_changeClass : Room := { frames := 0, cells := 0, slots := 0, locals := 0 }
noncomputable def fX7_changeClass_L30a (x2 : Int32) (x3 : Int32) (s0 : Int32) (t_analogClasses : Nat → Int32) (t_binaryClasses : Nat → Int32) : Option (Int32 × (Nat → Int32) × (Nat → Int32)) := grd (vp_in x2 16) (grd (isB s0) (some (s0, (upd t_analogClasses (ix x2) x3), t_binaryClasses)))
set_option maxHeartbeats 4000000 in
set_option maxRecDepth 100000 in
theorem wX7_changeClass_L30a {p : Program} {l : Launch} {e : Env} {s : State} {m : MethodId} {args : Array Value} {below : List Frame} {meth : Method} {c : Code} {G : GT} {A : Nat → Prop} (C : cxt p s m args meth c cX7_changeClass (some .boolean) 6 "OutStation$Points" wsX7_changeClass G A) {a_t : Nat} {a_t_analogClasses : Nat} {a_t_binaryClasses : Nat} {a_t_on : Nat} {a_t_values : Nat} {a_t_reported : Nat} {a_t_bands : Nat} {out : Int32 × (Nat → Int32) × (Nat → Int32)} : ∀ (x2 : Int32) (x3 : Int32) (s0 : Int32) (t_analogClasses : Nat → Int32) (t_binaryClasses : Nat → Int32) (H : Heap) (locs : List Loc) (ls : Array Slot), fX7_changeClass_L30a x2 x3 s0 t_analogClasses t_binaryClasses = some out → va_P G.1 vwCl (wdX7_changeClass G a_t a_t_analogClasses a_t_binaryClasses a_t_on a_t_values a_t_reported a_t_bands t_analogClasses t_binaryClasses) H → va_D A (wdX7_changeClass G a_t a_t_analogClasses a_t_binaryClasses a_t_on a_t_values a_t_reported a_t_bands t_analogClasses t_binaryClasses) → va_S A s.heap H locs → lv_has ls 6 [(2, .int x2), (3, .int x3), (4, .ref a_t_analogClasses)] → W p l e rmX7_changeClass s m args below meth c H locs 0 0 (MQ below (gQi G A out.1 (wdX7_changeClass G a_t a_t_analogClasses a_t_binaryClasses a_t_on a_t_values a_t_reported a_t_bands out.2.1 out.2.2)) args s 0 0 A) (F0 m 30 ls [.int s0]) := by
  obtain ⟨hx, hb, hr, hml, hown, hts, hlocks, hA, hK⟩ := id C
  have hB : ∀ w ∈ BG, w.before args s = true := fun w h => hts w (List.mem_cons_of_mem _ h)
  intro x2 x3 s0 t_analogClasses t_binaryClasses H locs ls h hP hD hS hl
  unfold fX7_changeClass_L30a at h
  refine lv_istore (lv' := [(5, .int s0), (2, .int x2), (3, .int x3), (4, .ref a_t_analogClasses)]) hx hb dX7_changeClass_30 hl (by decide) rfl (fun ls hl => ?_)
  refine lv_aload hx hb dX7_changeClass_32 (lv_at hl 3 rfl) ?_
  refine lv_iload_n hx hb dX7_changeClass_34 rfl (lv_at hl 1 rfl) ?_
  refine lv_iload_n hx hb dX7_changeClass_35 rfl (lv_at hl 2 rfl) ?_
  obtain ⟨hg1, h⟩ := grd_some h
  refine va_iast hx hb hK.1 hP hD hS 1 0 rfl rfl hg1 dX7_changeClass_36 (fun H locs hP hD hS => ?_)
  have hP : va_P G.1 vwCl (wdX7_changeClass G a_t a_t_analogClasses a_t_binaryClasses a_t_on a_t_values a_t_reported a_t_bands (upd t_analogClasses (ix x2) x3) t_binaryClasses) H := hP
  have hD : va_D A (wdX7_changeClass G a_t a_t_analogClasses a_t_binaryClasses a_t_on a_t_values a_t_reported a_t_bands (upd t_analogClasses (ix x2) x3) t_binaryClasses) := hD
  refine lv_iload hx hb dX7_changeClass_37 (lv_at hl 0 rfl) ?_
  obtain ⟨hg2, h⟩ := grd_some h
  obtain rfl := Option.some.inj h
  exact W.zret (v := s0) hx hb hr (isB_nar hg2) (fun t ht hW => ⟨⟨_, (), rfl, rfl, by rw [ht]; exact hP, hD⟩, hS.F ht⟩) hS.2.2 dX7_changeClass_39
noncomputable def fX7_changeClass_L15a (x2 : Int32) (x3 : Int32) (t_analogClasses : Nat → Int32) (t_binaryClasses : Nat → Int32) : Option (Int32 × (Nat → Int32) × (Nat → Int32)) := grd (vp_in x2 16) (brc ((t_analogClasses (ix x2)) = x3) (fX7_changeClass_L30a x2 x3 (0 : Int32) t_analogClasses t_binaryClasses) (fX7_changeClass_L30a x2 x3 (1 : Int32) t_analogClasses t_binaryClasses))
set_option maxHeartbeats 4000000 in
set_option maxRecDepth 100000 in
theorem wX7_changeClass_L15a {p : Program} {l : Launch} {e : Env} {s : State} {m : MethodId} {args : Array Value} {below : List Frame} {meth : Method} {c : Code} {G : GT} {A : Nat → Prop} (C : cxt p s m args meth c cX7_changeClass (some .boolean) 6 "OutStation$Points" wsX7_changeClass G A) {a_t : Nat} {a_t_analogClasses : Nat} {a_t_binaryClasses : Nat} {a_t_on : Nat} {a_t_values : Nat} {a_t_reported : Nat} {a_t_bands : Nat} {out : Int32 × (Nat → Int32) × (Nat → Int32)} : ∀ (x2 : Int32) (x3 : Int32) (t_analogClasses : Nat → Int32) (t_binaryClasses : Nat → Int32) (H : Heap) (locs : List Loc) (ls : Array Slot), fX7_changeClass_L15a x2 x3 t_analogClasses t_binaryClasses = some out → va_P G.1 vwCl (wdX7_changeClass G a_t a_t_analogClasses a_t_binaryClasses a_t_on a_t_values a_t_reported a_t_bands t_analogClasses t_binaryClasses) H → va_D A (wdX7_changeClass G a_t a_t_analogClasses a_t_binaryClasses a_t_on a_t_values a_t_reported a_t_bands t_analogClasses t_binaryClasses) → va_S A s.heap H locs → lv_has ls 6 [(2, .int x2), (3, .int x3)] → W p l e rmX7_changeClass s m args below meth c H locs 0 0 (MQ below (gQi G A out.1 (wdX7_changeClass G a_t a_t_analogClasses a_t_binaryClasses a_t_on a_t_values a_t_reported a_t_bands out.2.1 out.2.2)) args s 0 0 A) (F0 m 15 ls [.ref a_t_analogClasses]) := by
  obtain ⟨hx, hb, hr, hml, hown, hts, hlocks, hA, hK⟩ := id C
  have hB : ∀ w ∈ BG, w.before args s = true := fun w h => hts w (List.mem_cons_of_mem _ h)
  intro x2 x3 t_analogClasses t_binaryClasses H locs ls h hP hD hS hl
  unfold fX7_changeClass_L15a at h
  refine lv_astore (lv' := [(4, .ref a_t_analogClasses), (2, .int x2), (3, .int x3)]) hx hb dX7_changeClass_15 hl (by decide) rfl (fun ls hl => ?_)
  refine lv_aload hx hb dX7_changeClass_17 (lv_at hl 0 rfl) ?_
  refine lv_iload_n hx hb dX7_changeClass_19 rfl (lv_at hl 1 rfl) ?_
  obtain ⟨hg1, h⟩ := grd_some h
  refine va_iald hx hb hK.1 hP 1 0 rfl rfl hg1 dX7_changeClass_20 ?_
  refine lv_iload_n hx hb dX7_changeClass_21 rfl (lv_at hl 2 rfl) ?_
  refine lv_icmp_eq (tgt := 29) hx hb dX7_changeClass_22 (by decide) (fun hc22 => ?_) (fun hc22 => ?_)
  · have h := brc_tt h hc22
    refine lv_iconst (v := (0 : Int32)) hx hb dX7_changeClass_29 (by decide) ?_
    exact wX7_changeClass_L30a C x2 x3 (0 : Int32) t_analogClasses t_binaryClasses _ _ _ h hP hD hS (lv_sub hl [1, 2, 0] rfl)
  · have h := brc_ff h hc22
    refine lv_iconst (v := (1 : Int32)) hx hb dX7_changeClass_25 (by decide) ?_
    refine lv_goto (tgt := 30) hx hb dX7_changeClass_26 (by decide) ?_
    exact wX7_changeClass_L30a C x2 x3 (1 : Int32) t_analogClasses t_binaryClasses _ _ _ h hP hD hS (lv_sub hl [1, 2, 0] rfl)
noncomputable def fX7_changeClass_L30 (x2 : Int32) (x3 : Int32) (s0 : Int32) (t_analogClasses : Nat → Int32) (t_binaryClasses : Nat → Int32) : Option (Int32 × (Nat → Int32) × (Nat → Int32)) := grd (vp_in x2 16) (grd (isB s0) (some (s0, t_analogClasses, (upd t_binaryClasses (ix x2) x3))))
set_option maxHeartbeats 4000000 in
set_option maxRecDepth 100000 in
theorem wX7_changeClass_L30 {p : Program} {l : Launch} {e : Env} {s : State} {m : MethodId} {args : Array Value} {below : List Frame} {meth : Method} {c : Code} {G : GT} {A : Nat → Prop} (C : cxt p s m args meth c cX7_changeClass (some .boolean) 6 "OutStation$Points" wsX7_changeClass G A) {a_t : Nat} {a_t_analogClasses : Nat} {a_t_binaryClasses : Nat} {a_t_on : Nat} {a_t_values : Nat} {a_t_reported : Nat} {a_t_bands : Nat} {out : Int32 × (Nat → Int32) × (Nat → Int32)} : ∀ (x2 : Int32) (x3 : Int32) (s0 : Int32) (t_analogClasses : Nat → Int32) (t_binaryClasses : Nat → Int32) (H : Heap) (locs : List Loc) (ls : Array Slot), fX7_changeClass_L30 x2 x3 s0 t_analogClasses t_binaryClasses = some out → va_P G.1 vwCl (wdX7_changeClass G a_t a_t_analogClasses a_t_binaryClasses a_t_on a_t_values a_t_reported a_t_bands t_analogClasses t_binaryClasses) H → va_D A (wdX7_changeClass G a_t a_t_analogClasses a_t_binaryClasses a_t_on a_t_values a_t_reported a_t_bands t_analogClasses t_binaryClasses) → va_S A s.heap H locs → lv_has ls 6 [(2, .int x2), (3, .int x3), (4, .ref a_t_binaryClasses)] → W p l e rmX7_changeClass s m args below meth c H locs 0 0 (MQ below (gQi G A out.1 (wdX7_changeClass G a_t a_t_analogClasses a_t_binaryClasses a_t_on a_t_values a_t_reported a_t_bands out.2.1 out.2.2)) args s 0 0 A) (F0 m 30 ls [.int s0]) := by
  obtain ⟨hx, hb, hr, hml, hown, hts, hlocks, hA, hK⟩ := id C
  have hB : ∀ w ∈ BG, w.before args s = true := fun w h => hts w (List.mem_cons_of_mem _ h)
  intro x2 x3 s0 t_analogClasses t_binaryClasses H locs ls h hP hD hS hl
  unfold fX7_changeClass_L30 at h
  refine lv_istore (lv' := [(5, .int s0), (2, .int x2), (3, .int x3), (4, .ref a_t_binaryClasses)]) hx hb dX7_changeClass_30 hl (by decide) rfl (fun ls hl => ?_)
  refine lv_aload hx hb dX7_changeClass_32 (lv_at hl 3 rfl) ?_
  refine lv_iload_n hx hb dX7_changeClass_34 rfl (lv_at hl 1 rfl) ?_
  refine lv_iload_n hx hb dX7_changeClass_35 rfl (lv_at hl 2 rfl) ?_
  obtain ⟨hg1, h⟩ := grd_some h
  refine va_iast hx hb hK.1 hP hD hS 2 0 rfl rfl hg1 dX7_changeClass_36 (fun H locs hP hD hS => ?_)
  have hP : va_P G.1 vwCl (wdX7_changeClass G a_t a_t_analogClasses a_t_binaryClasses a_t_on a_t_values a_t_reported a_t_bands t_analogClasses (upd t_binaryClasses (ix x2) x3)) H := hP
  have hD : va_D A (wdX7_changeClass G a_t a_t_analogClasses a_t_binaryClasses a_t_on a_t_values a_t_reported a_t_bands t_analogClasses (upd t_binaryClasses (ix x2) x3)) := hD
  refine lv_iload hx hb dX7_changeClass_37 (lv_at hl 0 rfl) ?_
  obtain ⟨hg2, h⟩ := grd_some h
  obtain rfl := Option.some.inj h
  exact W.zret (v := s0) hx hb hr (isB_nar hg2) (fun t ht hW => ⟨⟨_, (), rfl, rfl, by rw [ht]; exact hP, hD⟩, hS.F ht⟩) hS.2.2 dX7_changeClass_39
noncomputable def fX7_changeClass_L15 (x2 : Int32) (x3 : Int32) (t_analogClasses : Nat → Int32) (t_binaryClasses : Nat → Int32) : Option (Int32 × (Nat → Int32) × (Nat → Int32)) := grd (vp_in x2 16) (brc ((t_binaryClasses (ix x2)) = x3) (fX7_changeClass_L30 x2 x3 (0 : Int32) t_analogClasses t_binaryClasses) (fX7_changeClass_L30 x2 x3 (1 : Int32) t_analogClasses t_binaryClasses))
set_option maxHeartbeats 4000000 in
set_option maxRecDepth 100000 in
theorem wX7_changeClass_L15 {p : Program} {l : Launch} {e : Env} {s : State} {m : MethodId} {args : Array Value} {below : List Frame} {meth : Method} {c : Code} {G : GT} {A : Nat → Prop} (C : cxt p s m args meth c cX7_changeClass (some .boolean) 6 "OutStation$Points" wsX7_changeClass G A) {a_t : Nat} {a_t_analogClasses : Nat} {a_t_binaryClasses : Nat} {a_t_on : Nat} {a_t_values : Nat} {a_t_reported : Nat} {a_t_bands : Nat} {out : Int32 × (Nat → Int32) × (Nat → Int32)} : ∀ (x2 : Int32) (x3 : Int32) (t_analogClasses : Nat → Int32) (t_binaryClasses : Nat → Int32) (H : Heap) (locs : List Loc) (ls : Array Slot), fX7_changeClass_L15 x2 x3 t_analogClasses t_binaryClasses = some out → va_P G.1 vwCl (wdX7_changeClass G a_t a_t_analogClasses a_t_binaryClasses a_t_on a_t_values a_t_reported a_t_bands t_analogClasses t_binaryClasses) H → va_D A (wdX7_changeClass G a_t a_t_analogClasses a_t_binaryClasses a_t_on a_t_values a_t_reported a_t_bands t_analogClasses t_binaryClasses) → va_S A s.heap H locs → lv_has ls 6 [(2, .int x2), (3, .int x3)] → W p l e rmX7_changeClass s m args below meth c H locs 0 0 (MQ below (gQi G A out.1 (wdX7_changeClass G a_t a_t_analogClasses a_t_binaryClasses a_t_on a_t_values a_t_reported a_t_bands out.2.1 out.2.2)) args s 0 0 A) (F0 m 15 ls [.ref a_t_binaryClasses]) := by
  obtain ⟨hx, hb, hr, hml, hown, hts, hlocks, hA, hK⟩ := id C
  have hB : ∀ w ∈ BG, w.before args s = true := fun w h => hts w (List.mem_cons_of_mem _ h)
  intro x2 x3 t_analogClasses t_binaryClasses H locs ls h hP hD hS hl
  unfold fX7_changeClass_L15 at h
  refine lv_astore (lv' := [(4, .ref a_t_binaryClasses), (2, .int x2), (3, .int x3)]) hx hb dX7_changeClass_15 hl (by decide) rfl (fun ls hl => ?_)
  refine lv_aload hx hb dX7_changeClass_17 (lv_at hl 0 rfl) ?_
  refine lv_iload_n hx hb dX7_changeClass_19 rfl (lv_at hl 1 rfl) ?_
  obtain ⟨hg1, h⟩ := grd_some h
  refine va_iald hx hb hK.1 hP 2 0 rfl rfl hg1 dX7_changeClass_20 ?_
  refine lv_iload_n hx hb dX7_changeClass_21 rfl (lv_at hl 2 rfl) ?_
  refine lv_icmp_eq (tgt := 29) hx hb dX7_changeClass_22 (by decide) (fun hc22 => ?_) (fun hc22 => ?_)
  · have h := brc_tt h hc22
    refine lv_iconst (v := (0 : Int32)) hx hb dX7_changeClass_29 (by decide) ?_
    exact wX7_changeClass_L30 C x2 x3 (0 : Int32) t_analogClasses t_binaryClasses _ _ _ h hP hD hS (lv_sub hl [1, 2, 0] rfl)
  · have h := brc_ff h hc22
    refine lv_iconst (v := (1 : Int32)) hx hb dX7_changeClass_25 (by decide) ?_
    refine lv_goto (tgt := 30) hx hb dX7_changeClass_26 (by decide) ?_
    exact wX7_changeClass_L30 C x2 x3 (1 : Int32) t_analogClasses t_binaryClasses _ _ _ h hP hD hS (lv_sub hl [1, 2, 0] rfl)
noncomputable def fX7_changeClass (x1 : Int32) (x2 : Int32) (x3 : Int32) (t_analogClasses : Nat → Int32) (t_binaryClasses : Nat → Int32) : Option (Int32 × (Nat → Int32) × (Nat → Int32)) := brc (x1 = 0) (fX7_changeClass_L15 x2 x3 t_analogClasses t_binaryClasses) (fX7_changeClass_L15a x2 x3 t_analogClasses t_binaryClasses)
set_option maxHeartbeats 4000000 in
set_option maxRecDepth 100000 in
theorem wX7_changeClass_E {p : Program} {l : Launch} {e : Env} {s : State} {m : MethodId} {args : Array Value} {below : List Frame} {meth : Method} {c : Code} {G : GT} {A : Nat → Prop} (C : cxt p s m args meth c cX7_changeClass (some .boolean) 6 "OutStation$Points" wsX7_changeClass G A) {a_t : Nat} {a_t_analogClasses : Nat} {a_t_binaryClasses : Nat} {a_t_on : Nat} {a_t_values : Nat} {a_t_reported : Nat} {a_t_bands : Nat} {out : Int32 × (Nat → Int32) × (Nat → Int32)} : ∀ (x1 : Int32) (x2 : Int32) (x3 : Int32) (t_analogClasses : Nat → Int32) (t_binaryClasses : Nat → Int32) (H : Heap) (locs : List Loc) (ls : Array Slot), fX7_changeClass x1 x2 x3 t_analogClasses t_binaryClasses = some out → va_P G.1 vwCl (wdX7_changeClass G a_t a_t_analogClasses a_t_binaryClasses a_t_on a_t_values a_t_reported a_t_bands t_analogClasses t_binaryClasses) H → va_D A (wdX7_changeClass G a_t a_t_analogClasses a_t_binaryClasses a_t_on a_t_values a_t_reported a_t_bands t_analogClasses t_binaryClasses) → va_S A s.heap H locs → lv_has ls 6 [(0, .ref a_t), (1, .int x1), (2, .int x2), (3, .int x3)] → W p l e rmX7_changeClass s m args below meth c H locs 0 0 (MQ below (gQi G A out.1 (wdX7_changeClass G a_t a_t_analogClasses a_t_binaryClasses a_t_on a_t_values a_t_reported a_t_bands out.2.1 out.2.2)) args s 0 0 A) (F0 m 0 ls []) := by
  obtain ⟨hx, hb, hr, hml, hown, hts, hlocks, hA, hK⟩ := id C
  have hB : ∀ w ∈ BG, w.before args s = true := fun w h => hts w (List.mem_cons_of_mem _ h)
  intro x1 x2 x3 t_analogClasses t_binaryClasses H locs ls h hP hD hS hl
  unfold fX7_changeClass at h
  refine lv_iload_n hx hb dX7_changeClass_0 rfl (lv_at hl 1 rfl) ?_
  refine lv_if_ne (tgt := 11) hx hb dX7_changeClass_1 (by decide) (fun hc1 => ?_) (fun hc1 => ?_)
  · have h := brc_ff h hc1
    refine lv_aload_n hx hb dX7_changeClass_11 rfl (lv_at hl 0 rfl) ?_
    refine va_get (D := G.1) (ci := 7) (v := .ref a_t_analogClasses) (C := RX7) (T := TX7) (N := 6) hx hb hB iX7 hown hK.1 hP 0 rfl rfl 5 (by decide) (hB _ kw201) (fun _ h9 => h9) rfl dX7_changeClass_12 ?_
    exact wX7_changeClass_L15a C x2 x3 t_analogClasses t_binaryClasses _ _ _ h hP hD hS (lv_sub hl [2, 3] rfl)
  · have h := brc_tt h hc1
    refine lv_aload_n hx hb dX7_changeClass_4 rfl (lv_at hl 0 rfl) ?_
    refine va_get (D := G.1) (ci := 7) (v := .ref a_t_binaryClasses) (C := RX7) (T := TX7) (N := 6) hx hb hB iX7 hown hK.1 hP 0 rfl rfl 4 (by decide) (hB _ kw200) (fun _ h9 => h9) rfl dX7_changeClass_5 ?_
    refine lv_goto (tgt := 15) hx hb dX7_changeClass_8 (by decide) ?_
    exact wX7_changeClass_L15 C x2 x3 t_analogClasses t_binaryClasses _ _ _ h hP hD hS (lv_sub hl [2, 3] rfl)
set_option maxHeartbeats 4000000 in
set_option maxRecDepth 100000 in
theorem mX7_changeClass (l : Launch) (G : GT) (a_t : Nat) (a_t_analogClasses : Nat) (a_t_binaryClasses : Nat) (a_t_on : Nat) (a_t_values : Nat) (a_t_reported : Nat) (a_t_bands : Nat) (x1 : Int32) (x2 : Int32) (x3 : Int32) (t_analogClasses : Nat → Int32) (t_binaryClasses : Nat → Int32) (sz : Nat) (out : Int32 × (Nat → Int32) × (Nat → Int32)) (h : fX7_changeClass x1 x2 x3 t_analogClasses t_binaryClasses = some out) : Met l yX7_changeClass wsX7_changeClass rmX7_changeClass (gPc G [.ref a_t, .int x1, .int x2, .int x3] sz (wdX7_changeClass G a_t a_t_analogClasses a_t_binaryClasses a_t_on a_t_values a_t_reported a_t_bands t_analogClasses t_binaryClasses)) (gQi G (va_A (wdX7_changeClass G a_t a_t_analogClasses a_t_binaryClasses a_t_on a_t_values a_t_reported a_t_bands t_analogClasses t_binaryClasses) sz) out.1 (wdX7_changeClass G a_t a_t_analogClasses a_t_binaryClasses a_t_on a_t_values a_t_reported a_t_bands out.2.1 out.2.2)) 0 0 (va_A (wdX7_changeClass G a_t a_t_analogClasses a_t_binaryClasses a_t_on a_t_values a_t_reported a_t_bands t_analogClasses t_binaryClasses) sz) := by
  refine Met.ofW (cc := cX7_changeClass) (maxL := 6) (ret := (some .boolean)) (by decide) rfl ?_
  intro p e s m args below meth c s₁ B hml hv
  obtain ⟨rfl, hsz, hP, hK, hD0⟩ := hv
  have hts := atoms_spec (ws := wsX7_changeClass) B.pre
  have hown : s.vm.findClass "OutStation$Points" = some m.cls := findClass_of_methodNamed B.named
  subst hsz
  have hD := hD0.self (sz := s.heap.size)
  generalize hAe : va_A (wdX7_changeClass G a_t a_t_analogClasses a_t_binaryClasses a_t_on a_t_values a_t_reported a_t_bands t_analogClasses t_binaryClasses) s.heap.size = A at hD ⊢
  have hA : ∀ q : Nat, s.heap.size ≤ q → A q := fun q h => by rw [← hAe]; exact Or.inr h
  have hS : va_S A s.heap s.heap [] := va_S.rf
  have hl := lv_entry ([.ref a_t, .int x1, .int x2, .int x3]) (n := 6) (Nat.le_of_ble_eq_true rfl)
  rw [lg_entry_eq]
  generalize (lg_sl ([.ref a_t, .int x1, .int x2, .int x3]) ++ List.replicate (6 - (lg_sl ([.ref a_t, .int x1, .int x2, .int x3])).length) Slot.unset).toArray = ls at hl ⊢
  exact wX7_changeClass_E ⟨B.exec, B.bytes, B.returns, hml, hown, hts, B.notSynchronized, hA, hK⟩ x1 x2 x3 t_analogClasses t_binaryClasses _ _ _ h hP hD hS hl
/-! ### OutStation$Points.changeBand (II)V -/
abbrev wdX7_changeBand (G : GT) (a_t : Nat) (a_t_bands : Nat) (a_t_on : Nat) (a_t_values : Nat) (a_t_reported : Nat) (a_t_binaryClasses : Nat) (a_t_analogClasses : Nat) (t_bands : Nat → Int32) : va_W := [(a_t, .inr (7, [.ref a_t_on, .ref a_t_values, .ref a_t_reported, .ref a_t_bands, .ref a_t_binaryClasses, .ref a_t_analogClasses])), (a_t_bands, .inl (G.2.1, 16, .inl t_bands))]
abbrev wsX7_changeBand : List Cond := .code yX7_changeBand cX7_changeBand 3 none :: BG
abbrev rmX7_changeBand : Room := { frames := 0, cells := 0, slots := 0, locals := 0 }
noncomputable def fX7_changeBand (x1 : Int32) (x2 : Int32) (t_bands : Nat → Int32) : Option ((Nat → Int32)) := grd (vp_in x1 16) (some ((upd t_bands (ix x1) x2)))
set_option maxHeartbeats 4000000 in
set_option maxRecDepth 100000 in
theorem wX7_changeBand_E {p : Program} {l : Launch} {e : Env} {s : State} {m : MethodId} {args : Array Value} {below : List Frame} {meth : Method} {c : Code} {G : GT} {A : Nat → Prop} (C : cxt p s m args meth c cX7_changeBand none 3 "OutStation$Points" wsX7_changeBand G A) {a_t : Nat} {a_t_bands : Nat} {a_t_on : Nat} {a_t_values : Nat} {a_t_reported : Nat} {a_t_binaryClasses : Nat} {a_t_analogClasses : Nat} {out : (Nat → Int32)} : ∀ (x1 : Int32) (x2 : Int32) (t_bands : Nat → Int32) (H : Heap) (locs : List Loc) (ls : Array Slot), fX7_changeBand x1 x2 t_bands = some out → va_P G.1 vwCl (wdX7_changeBand G a_t a_t_bands a_t_on a_t_values a_t_reported a_t_binaryClasses a_t_analogClasses t_bands) H → va_D A (wdX7_changeBand G a_t a_t_bands a_t_on a_t_values a_t_reported a_t_binaryClasses a_t_analogClasses t_bands) → va_S A s.heap H locs → lv_has ls 3 [(0, .ref a_t), (1, .int x1), (2, .int x2)] → W p l e rmX7_changeBand s m args below meth c H locs 0 0 (MQ below (gQv G A (wdX7_changeBand G a_t a_t_bands a_t_on a_t_values a_t_reported a_t_binaryClasses a_t_analogClasses out)) args s 0 0 A) (F0 m 0 ls []) := by
  obtain ⟨hx, hb, hr, hml, hown, hts, hlocks, hA, hK⟩ := id C
  have hB : ∀ w ∈ BG, w.before args s = true := fun w h => hts w (List.mem_cons_of_mem _ h)
  intro x1 x2 t_bands H locs ls h hP hD hS hl
  unfold fX7_changeBand at h
  refine lv_aload_n hx hb dX7_changeBand_0 rfl (lv_at hl 0 rfl) ?_
  refine va_get (D := G.1) (ci := 7) (v := .ref a_t_bands) (C := RX7) (T := TX7) (N := 6) hx hb hB iX7 hown hK.1 hP 0 rfl rfl 3 (by decide) (hB _ kw199) (fun _ h9 => h9) rfl dX7_changeBand_1 ?_
  refine lv_iload_n hx hb dX7_changeBand_4 rfl (lv_at hl 1 rfl) ?_
  refine lv_iload_n hx hb dX7_changeBand_5 rfl (lv_at hl 2 rfl) ?_
  obtain ⟨hg1, h⟩ := grd_some h
  refine va_iast hx hb hK.1 hP hD hS 1 0 rfl rfl hg1 dX7_changeBand_6 (fun H locs hP hD hS => ?_)
  have hP : va_P G.1 vwCl (wdX7_changeBand G a_t a_t_bands a_t_on a_t_values a_t_reported a_t_binaryClasses a_t_analogClasses (upd t_bands (ix x1) x2)) H := hP
  have hD : va_D A (wdX7_changeBand G a_t a_t_bands a_t_on a_t_values a_t_reported a_t_binaryClasses a_t_analogClasses (upd t_bands (ix x1) x2)) := hD
  obtain rfl := Option.some.inj h
  exact W.vret hx hb hr (fun t ht hW => ⟨⟨(), rfl, trivial, by rw [ht]; exact hP, hD⟩, hS.F ht⟩) hS.2.2 dX7_changeBand_7
set_option maxHeartbeats 4000000 in
set_option maxRecDepth 100000 in
theorem mX7_changeBand (l : Launch) (G : GT) (a_t : Nat) (a_t_bands : Nat) (a_t_on : Nat) (a_t_values : Nat) (a_t_reported : Nat) (a_t_binaryClasses : Nat) (a_t_analogClasses : Nat) (x1 : Int32) (x2 : Int32) (t_bands : Nat → Int32) (sz : Nat) (out : (Nat → Int32)) (h : fX7_changeBand x1 x2 t_bands = some out) : Met l yX7_changeBand wsX7_changeBand rmX7_changeBand (gPc G [.ref a_t, .int x1, .int x2] sz (wdX7_changeBand G a_t a_t_bands a_t_on a_t_values a_t_reported a_t_binaryClasses a_t_analogClasses t_bands)) (gQv G (va_A (wdX7_changeBand G a_t a_t_bands a_t_on a_t_values a_t_reported a_t_binaryClasses a_t_analogClasses t_bands) sz) (wdX7_changeBand G a_t a_t_bands a_t_on a_t_values a_t_reported a_t_binaryClasses a_t_analogClasses out)) 0 0 (va_A (wdX7_changeBand G a_t a_t_bands a_t_on a_t_values a_t_reported a_t_binaryClasses a_t_analogClasses t_bands) sz) := by
  refine Met.ofW (cc := cX7_changeBand) (maxL := 3) (ret := none) (by decide) rfl ?_
  intro p e s m args below meth c s₁ B hml hv
  obtain ⟨rfl, hsz, hP, hK, hD0⟩ := hv
  have hts := atoms_spec (ws := wsX7_changeBand) B.pre
  have hown : s.vm.findClass "OutStation$Points" = some m.cls := findClass_of_methodNamed B.named
  subst hsz
  have hD := hD0.self (sz := s.heap.size)
  generalize hAe : va_A (wdX7_changeBand G a_t a_t_bands a_t_on a_t_values a_t_reported a_t_binaryClasses a_t_analogClasses t_bands) s.heap.size = A at hD ⊢
  have hA : ∀ q : Nat, s.heap.size ≤ q → A q := fun q h => by rw [← hAe]; exact Or.inr h
  have hS : va_S A s.heap s.heap [] := va_S.rf
  have hl := lv_entry ([.ref a_t, .int x1, .int x2]) (n := 3) (Nat.le_of_ble_eq_true rfl)
  rw [lg_entry_eq]
  generalize (lg_sl ([.ref a_t, .int x1, .int x2]) ++ List.replicate (3 - (lg_sl ([.ref a_t, .int x1, .int x2])).length) Slot.unset).toArray = ls at hl ⊢
  exact wX7_changeBand_E ⟨B.exec, B.bytes, B.returns, hml, hown, hts, B.notSynchronized, hA, hK⟩ x1 x2 t_bands _ _ _ h hP hD hS hl
