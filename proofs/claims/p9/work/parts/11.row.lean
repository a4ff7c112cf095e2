/-! ### OutStation$EventRow.size ()I -/
abbrev wdX2_size (G : GT) (a_t : Nat) (a_t_kinds : Nat) (a_t_numbers : Nat) (a_t_values : Nat) (a_t_answered : Nat) (t_most : Int32) (t_length : Int32) : va_W := [(a_t, .inr (2, [.int t_most, .ref a_t_kinds, .ref a_t_numbers, .ref a_t_values, .ref a_t_answered, .int t_length]))]
abbrev wsX2_size : List Cond := .code yX2_size cX2_size 1 (some .int) :: BG
abbrev rmX2_size : Room := { frames := 0, cells := 0, slots := 0, locals := 0 }
noncomputable def fX2_size (t_length : Int32) : Option (Int32) := some (t_length)
set_option maxHeartbeats 4000000 in
set_option maxRecDepth 100000 in
theorem wX2_size_E {p : Program} {l : Launch} {e : Env} {s : State} {m : MethodId} {args : Array Value} {below : List Frame} {meth : Method} {c : Code} {G : GT} {A : Nat → Prop} (C : cxt p s m args meth c cX2_size (some .int) 1 "OutStation$EventRow" wsX2_size G A) {a_t : Nat} {a_t_kinds : Nat} {a_t_numbers : Nat} {a_t_values : Nat} {a_t_answered : Nat} {t_most : Int32} {t_length : Int32} {out : Int32} : ∀ (H : Heap) (locs : List Loc) (ls : Array Slot), fX2_size t_length = some out → va_P G.1 vwCl (wdX2_size G a_t a_t_kinds a_t_numbers a_t_values a_t_answered t_most t_length) H → va_D A (wdX2_size G a_t a_t_kinds a_t_numbers a_t_values a_t_answered t_most t_length) → va_S A s.heap H locs → lv_has ls 1 [(0, .ref a_t)] → W p l e rmX2_size s m args below meth c H locs 0 0 (MQ below (gQi G A out (wdX2_size G a_t a_t_kinds a_t_numbers a_t_values a_t_answered t_most t_length)) args s 0 0 A) (F0 m 0 ls []) := by
  obtain ⟨hx, hb, hr, hml, hown, hts, hlocks, hA, hK⟩ := id C
  have hB : ∀ w ∈ BG, w.before args s = true := fun w h => hts w (List.mem_cons_of_mem _ h)
  intro H locs ls h hP hD hS hl
  unfold fX2_size at h
  refine lv_aload_n hx hb dX2_size_0 rfl (lv_at hl 0 rfl) ?_
  refine va_get (D := G.1) (ci := 2) (v := .int t_length) (C := RX2) (T := TX2) (N := 6) hx hb hB iX2 hown hK.1 hP 0 rfl rfl 5 (by decide) (hB _ kw240) (fun _ h9 => h9) rfl dX2_size_1 ?_
  obtain rfl := Option.some.inj h
  exact W.iret (v := t_length) hx hb hr (fun t ht hW => ⟨⟨_, (), rfl, rfl, by rw [ht]; exact hP, hD⟩, hS.F ht⟩) hS.2.2 dX2_size_4
set_option maxHeartbeats 4000000 in
set_option maxRecDepth 100000 in
theorem mX2_size (l : Launch) (G : GT) (a_t : Nat) (a_t_kinds : Nat) (a_t_numbers : Nat) (a_t_values : Nat) (a_t_answered : Nat) (t_most : Int32) (t_length : Int32) (sz : Nat) (out : Int32) (h : fX2_size t_length = some out) : Met l yX2_size wsX2_size rmX2_size (gPc G [.ref a_t] sz (wdX2_size G a_t a_t_kinds a_t_numbers a_t_values a_t_answered t_most t_length)) (gQi G (va_A (wdX2_size G a_t a_t_kinds a_t_numbers a_t_values a_t_answered t_most t_length) sz) out (wdX2_size G a_t a_t_kinds a_t_numbers a_t_values a_t_answered t_most t_length)) 0 0 (va_A (wdX2_size G a_t a_t_kinds a_t_numbers a_t_values a_t_answered t_most t_length) sz) := by
  refine Met.ofW (cc := cX2_size) (maxL := 1) (ret := (some .int)) (by decide) rfl ?_
  intro p e s m args below meth c s₁ B hml hv
  obtain ⟨rfl, hsz, hP, hK, hD0⟩ := hv
  have hts := atoms_spec (ws := wsX2_size) B.pre
  have hown : s.vm.findClass "OutStation$EventRow" = some m.cls := findClass_of_methodNamed B.named
  subst hsz
  have hD := hD0.self (sz := s.heap.size)
  generalize hAe : va_A (wdX2_size G a_t a_t_kinds a_t_numbers a_t_values a_t_answered t_most t_length) s.heap.size = A at hD ⊢
  have hA : ∀ q : Nat, s.heap.size ≤ q → A q := fun q h => by rw [← hAe]; exact Or.inr h
  have hS : va_S A s.heap s.heap [] := va_S.rf
  have hl := lv_entry ([.ref a_t]) (n := 1) (Nat.le_of_ble_eq_true rfl)
  rw [lg_entry_eq]
  generalize (lg_sl ([.ref a_t]) ++ List.replicate (1 - (lg_sl ([.ref a_t])).length) Slot.unset).toArray = ls at hl ⊢
  exact wX2_size_E ⟨B.exec, B.bytes, B.returns, hml, hown, hts, B.notSynchronized, hA, hK⟩  _ _ _ h hP hD hS hl
/-! ### OutStation$EventRow.isFull ()Z -/
abbrev wdX2_isFull (G : GT) (a_t : Nat) (a_t_kinds : Nat) (a_t_numbers : Nat) (a_t_values : Nat) (a_t_answered : Nat) (t_most : Int32) (t_length : Int32) : va_W := [(a_t, .inr (2, [.int t_most, .ref a_t_kinds, .ref a_t_numbers, .ref a_t_values, .ref a_t_answered, .int t_length]))]
abbrev wsX2_isFull : List Cond := .code yX2_isFull cX2_isFull 1 (some .boolean) :: BG
abbrev rmX2_isFull : Room := { frames := 0, cells := 0, slots := 0, locals := 0 }
noncomputable def fX2_isFull_L16 (t_most : Int32) (t_length : Int32) (s0 : Int32) : Option (Int32) := grd (isB s0) (some (s0))
set_option maxHeartbeats 4000000 in
set_option maxRecDepth 100000 in
theorem wX2_isFull_L16 {p : Program} {l : Launch} {e : Env} {s : State} {m : MethodId} {args : Array Value} {below : List Frame} {meth : Method} {c : Code} {G : GT} {A : Nat → Prop} (C : cxt p s m args meth c cX2_isFull (some .boolean) 1 "OutStation$EventRow" wsX2_isFull G A) {a_t : Nat} {a_t_kinds : Nat} {a_t_numbers : Nat} {a_t_values : Nat} {a_t_answered : Nat} {t_most : Int32} {t_length : Int32} {out : Int32} : ∀ (s0 : Int32) (H : Heap) (locs : List Loc) (ls : Array Slot), fX2_isFull_L16 t_most t_length s0 = some out → va_P G.1 vwCl (wdX2_isFull G a_t a_t_kinds a_t_numbers a_t_values a_t_answered t_most t_length) H → va_D A (wdX2_isFull G a_t a_t_kinds a_t_numbers a_t_values a_t_answered t_most t_length) → va_S A s.heap H locs → lv_has ls 1 [] → W p l e rmX2_isFull s m args below meth c H locs 0 0 (MQ below (gQi G A out (wdX2_isFull G a_t a_t_kinds a_t_numbers a_t_values a_t_answered t_most t_length)) args s 0 0 A) (F0 m 16 ls [.int s0]) := by
  obtain ⟨hx, hb, hr, hml, hown, hts, hlocks, hA, hK⟩ := id C
  have hB : ∀ w ∈ BG, w.before args s = true := fun w h => hts w (List.mem_cons_of_mem _ h)
  intro s0 H locs ls h hP hD hS hl
  unfold fX2_isFull_L16 at h
  obtain ⟨hg1, h⟩ := grd_some h
  obtain rfl := Option.some.inj h
  exact W.zret (v := s0) hx hb hr (isB_nar hg1) (fun t ht hW => ⟨⟨_, (), rfl, rfl, by rw [ht]; exact hP, hD⟩, hS.F ht⟩) hS.2.2 dX2_isFull_16
noncomputable def fX2_isFull (t_most : Int32) (t_length : Int32) : Option (Int32) := brc (t_length < t_most) (fX2_isFull_L16 t_most t_length (0 : Int32)) (fX2_isFull_L16 t_most t_length (1 : Int32))
set_option maxHeartbeats 4000000 in
set_option maxRecDepth 100000 in
theorem wX2_isFull_E {p : Program} {l : Launch} {e : Env} {s : State} {m : MethodId} {args : Array Value} {below : List Frame} {meth : Method} {c : Code} {G : GT} {A : Nat → Prop} (C : cxt p s m args meth c cX2_isFull (some .boolean) 1 "OutStation$EventRow" wsX2_isFull G A) {a_t : Nat} {a_t_kinds : Nat} {a_t_numbers : Nat} {a_t_values : Nat} {a_t_answered : Nat} {t_most : Int32} {t_length : Int32} {out : Int32} : ∀ (H : Heap) (locs : List Loc) (ls : Array Slot), fX2_isFull t_most t_length = some out → va_P G.1 vwCl (wdX2_isFull G a_t a_t_kinds a_t_numbers a_t_values a_t_answered t_most t_length) H → va_D A (wdX2_isFull G a_t a_t_kinds a_t_numbers a_t_values a_t_answered t_most t_length) → va_S A s.heap H locs → lv_has ls 1 [(0, .ref a_t)] → W p l e rmX2_isFull s m args below meth c H locs 0 0 (MQ below (gQi G A out (wdX2_isFull G a_t a_t_kinds a_t_numbers a_t_values a_t_answered t_most t_length)) args s 0 0 A) (F0 m 0 ls []) := by
  obtain ⟨hx, hb, hr, hml, hown, hts, hlocks, hA, hK⟩ := id C
  have hB : ∀ w ∈ BG, w.before args s = true := fun w h => hts w (List.mem_cons_of_mem _ h)
  intro H locs ls h hP hD hS hl
  unfold fX2_isFull at h
  refine lv_aload_n hx hb dX2_isFull_0 rfl (lv_at hl 0 rfl) ?_
  refine va_get (D := G.1) (ci := 2) (v := .int t_length) (C := RX2) (T := TX2) (N := 6) hx hb hB iX2 hown hK.1 hP 0 rfl rfl 5 (by decide) (hB _ kw240) (fun _ h9 => h9) rfl dX2_isFull_1 ?_
  refine lv_aload_n hx hb dX2_isFull_4 rfl (lv_at hl 0 rfl) ?_
  refine va_get (D := G.1) (ci := 2) (v := .int t_most) (C := RX2) (T := TX2) (N := 6) hx hb hB iX2 hown hK.1 hP 0 rfl rfl 0 (by decide) (hB _ kw235) (fun _ h9 => h9) rfl dX2_isFull_5 ?_
  refine lv_icmp_lt (tgt := 15) hx hb dX2_isFull_8 (by decide) (fun hc8 => ?_) (fun hc8 => ?_)
  · have h := brc_tt h hc8
    refine lv_iconst (v := (0 : Int32)) hx hb dX2_isFull_15 (by decide) ?_
    exact wX2_isFull_L16 C (0 : Int32) _ _ _ h hP hD hS (lv_sub hl [] rfl)
  · have h := brc_ff h hc8
    refine lv_iconst (v := (1 : Int32)) hx hb dX2_isFull_11 (by decide) ?_
    refine lv_goto (tgt := 16) hx hb dX2_isFull_12 (by decide) ?_
    exact wX2_isFull_L16 C (1 : Int32) _ _ _ h hP hD hS (lv_sub hl [] rfl)
set_option maxHeartbeats 4000000 in
set_option maxRecDepth 100000 in
theorem mX2_isFull (l : Launch) (G : GT) (a_t : Nat) (a_t_kinds : Nat) (a_t_numbers : Nat) (a_t_values : Nat) (a_t_answered : Nat) (t_most : Int32) (t_length : Int32) (sz : Nat) (out : Int32) (h : fX2_isFull t_most t_length = some out) : Met l yX2_isFull wsX2_isFull rmX2_isFull (gPc G [.ref a_t] sz (wdX2_isFull G a_t a_t_kinds a_t_numbers a_t_values a_t_answered t_most t_length)) (gQi G (va_A (wdX2_isFull G a_t a_t_kinds a_t_numbers a_t_values a_t_answered t_most t_length) sz) out (wdX2_isFull G a_t a_t_kinds a_t_numbers a_t_values a_t_answered t_most t_length)) 0 0 (va_A (wdX2_isFull G a_t a_t_kinds a_t_numbers a_t_values a_t_answered t_most t_length) sz) := by
  refine Met.ofW (cc := cX2_isFull) (maxL := 1) (ret := (some .boolean)) (by decide) rfl ?_
  intro p e s m args below meth c s₁ B hml hv
  obtain ⟨rfl, hsz, hP, hK, hD0⟩ := hv
  have hts := atoms_spec (ws := wsX2_isFull) B.pre
  have hown : s.vm.findClass "OutStation$EventRow" = some m.cls := findClass_of_methodNamed B.named
  subst hsz
  have hD := hD0.self (sz := s.heap.size)
  generalize hAe : va_A (wdX2_isFull G a_t a_t_kinds a_t_numbers a_t_values a_t_answered t_most t_length) s.heap.size = A at hD ⊢
  have hA : ∀ q : Nat, s.heap.size ≤ q → A q := fun q h => by rw [← hAe]; exact Or.inr h
  have hS : va_S A s.heap s.heap [] := va_S.rf
  have hl := lv_entry ([.ref a_t]) (n := 1) (Nat.le_of_ble_eq_true rfl)
  rw [lg_entry_eq]
  generalize (lg_sl ([.ref a_t]) ++ List.replicate (1 - (lg_sl ([.ref a_t])).length) Slot.unset).toArray = ls at hl ⊢
  exact wX2_isFull_E ⟨B.exec, B.bytes, B.returns, hml, hown, hts, B.notSynchronized, hA, hK⟩  _ _ _ h hP hD hS hl
/-! ### OutStation$EventRow.kindAt (I)I -/
abbrev wdX2_kindAt (G : GT) (a_t : Nat) (a_t_kinds : Nat) (a_t_numbers : Nat) (a_t_values : Nat) (a_t_answered : Nat) (N_t : Nat) (t_most : Int32) (t_length : Int32) (t_kinds : Nat → Int32) : va_W := [(a_t, .inr (2, [.int t_most, .ref a_t_kinds, .ref a_t_numbers, .ref a_t_values, .ref a_t_answered, .int t_length])), (a_t_kinds, .inl (G.2.1, N_t, .inl t_kinds))]
abbrev wsX2_kindAt : List Cond := .code yX2_kindAt cX2_kindAt 2 (some .int) :: BG
abbrev rmX2_kindAt : Room := { frames := 0, cells := 0, slots := 0, locals := 0 }
noncomputable def fX2_kindAt (N_t : Nat) (t_kinds : Nat → Int32) (x1 : Int32) : Option (Int32) := grd (vp_in x1 N_t) (some ((t_kinds (ix x1))))
set_option maxHeartbeats 4000000 in
set_option maxRecDepth 100000 in
theorem wX2_kindAt_E {p : Program} {l : Launch} {e : Env} {s : State} {m : MethodId} {args : Array Value} {below : List Frame} {meth : Method} {c : Code} {G : GT} {A : Nat → Prop} (C : cxt p s m args meth c cX2_kindAt (some .int) 2 "OutStation$EventRow" wsX2_kindAt G A) {a_t : Nat} {a_t_kinds : Nat} {a_t_numbers : Nat} {a_t_values : Nat} {a_t_answered : Nat} {N_t : Nat} {t_most : Int32} {t_length : Int32} {t_kinds : Nat → Int32} {out : Int32} : ∀ (x1 : Int32) (H : Heap) (locs : List Loc) (ls : Array Slot), fX2_kindAt N_t t_kinds x1 = some out → va_P G.1 vwCl (wdX2_kindAt G a_t a_t_kinds a_t_numbers a_t_values a_t_answered N_t t_most t_length t_kinds) H → va_D A (wdX2_kindAt G a_t a_t_kinds a_t_numbers a_t_values a_t_answered N_t t_most t_length t_kinds) → va_S A s.heap H locs → lv_has ls 2 [(0, .ref a_t), (1, .int x1)] → W p l e rmX2_kindAt s m args below meth c H locs 0 0 (MQ below (gQi G A out (wdX2_kindAt G a_t a_t_kinds a_t_numbers a_t_values a_t_answered N_t t_most t_length t_kinds)) args s 0 0 A) (F0 m 0 ls []) := by
  obtain ⟨hx, hb, hr, hml, hown, hts, hlocks, hA, hK⟩ := id C
  have hB : ∀ w ∈ BG, w.before args s = true := fun w h => hts w (List.mem_cons_of_mem _ h)
  intro x1 H locs ls h hP hD hS hl
  unfold fX2_kindAt at h
  refine lv_aload_n hx hb dX2_kindAt_0 rfl (lv_at hl 0 rfl) ?_
  refine va_get (D := G.1) (ci := 2) (v := .ref a_t_kinds) (C := RX2) (T := TX2) (N := 6) hx hb hB iX2 hown hK.1 hP 0 rfl rfl 1 (by decide) (hB _ kw236) (fun _ h9 => h9) rfl dX2_kindAt_1 ?_
  refine lv_iload_n hx hb dX2_kindAt_4 rfl (lv_at hl 1 rfl) ?_
  obtain ⟨hg1, h⟩ := grd_some h
  refine va_iald hx hb hK.1 hP 1 0 rfl rfl hg1 dX2_kindAt_5 ?_
  obtain rfl := Option.some.inj h
  exact W.iret (v := (t_kinds (ix x1))) hx hb hr (fun t ht hW => ⟨⟨_, (), rfl, rfl, by rw [ht]; exact hP, hD⟩, hS.F ht⟩) hS.2.2 dX2_kindAt_6
set_option maxHeartbeats 4000000 in
set_option maxRecDepth 100000 in
theorem mX2_kindAt (l : Launch) (G : GT) (a_t : Nat) (a_t_kinds : Nat) (a_t_numbers : Nat) (a_t_values : Nat) (a_t_answered : Nat) (N_t : Nat) (t_most : Int32) (t_length : Int32) (t_kinds : Nat → Int32) (x1 : Int32) (sz : Nat) (out : Int32) (h : fX2_kindAt N_t t_kinds x1 = some out) : Met l yX2_kindAt wsX2_kindAt rmX2_kindAt (gPc G [.ref a_t, .int x1] sz (wdX2_kindAt G a_t a_t_kinds a_t_numbers a_t_values a_t_answered N_t t_most t_length t_kinds)) (gQi G (va_A (wdX2_kindAt G a_t a_t_kinds a_t_numbers a_t_values a_t_answered N_t t_most t_length t_kinds) sz) out (wdX2_kindAt G a_t a_t_kinds a_t_numbers a_t_values a_t_answered N_t t_most t_length t_kinds)) 0 0 (va_A (wdX2_kindAt G a_t a_t_kinds a_t_numbers a_t_values a_t_answered N_t t_most t_length t_kinds) sz) := by
  refine Met.ofW (cc := cX2_kindAt) (maxL := 2) (ret := (some .int)) (by decide) rfl ?_
  intro p e s m args below meth c s₁ B hml hv
  obtain ⟨rfl, hsz, hP, hK, hD0⟩ := hv
  have hts := atoms_spec (ws := wsX2_kindAt) B.pre
  have hown : s.vm.findClass "OutStation$EventRow" = some m.cls := findClass_of_methodNamed B.named
  subst hsz
  have hD := hD0.self (sz := s.heap.size)
  generalize hAe : va_A (wdX2_kindAt G a_t a_t_kinds a_t_numbers a_t_values a_t_answered N_t t_most t_length t_kinds) s.heap.size = A at hD ⊢
  have hA : ∀ q : Nat, s.heap.size ≤ q → A q := fun q h => by rw [← hAe]; exact Or.inr h
  have hS : va_S A s.heap s.heap [] := va_S.rf
  have hl := lv_entry ([.ref a_t, .int x1]) (n := 2) (Nat.le_of_ble_eq_true rfl)
  rw [lg_entry_eq]
  generalize (lg_sl ([.ref a_t, .int x1]) ++ List.replicate (2 - (lg_sl ([.ref a_t, .int x1])).length) Slot.unset).toArray = ls at hl ⊢
  exact wX2_kindAt_E ⟨B.exec, B.bytes, B.returns, hml, hown, hts, B.notSynchronized, hA, hK⟩ x1 _ _ _ h hP hD hS hl
/-! ### OutStation$EventRow.numberAt (I)I -/
abbrev wdX2_numberAt (G : GT) (a_t : Nat) (a_t_numbers : Nat) (a_t_kinds : Nat) (a_t_values : Nat) (a_t_answered : Nat) (N_t : Nat) (t_most : Int32) (t_length : Int32) (t_numbers : Nat → Int32) : va_W := [(a_t, .inr (2, [.int t_most, .ref a_t_kinds, .ref a_t_numbers, .ref a_t_values, .ref a_t_answered, .int t_length])), (a_t_numbers, .inl (G.2.1, N_t, .inl t_numbers))]
abbrev wsX2_numberAt : List Cond := .code yX2_numberAt cX2_numberAt 2 (some .int) :: BG
abbrev rmX2_numberAt : Room := { frames := 0, cells := 0, slots := 0, locals := 0 }
noncomputable def fX2_numberAt (N_t : Nat) (t_numbers : Nat → Int32) (x1 : Int32) : Option (Int32) := grd (vp_in x1 N_t) (some ((t_numbers (ix x1))))
set_option maxHeartbeats 4000000 in
set_option maxRecDepth 100000 in
theorem wX2_numberAt_E {p : Program} {l : Launch} {e : Env} {s : State} {m : MethodId} {args : Array Value} {below : List Frame} {meth : Method} {c : Code} {G : GT} {A : Nat → Prop} (C : cxt p s m args meth c cX2_numberAt (some .int) 2 "OutStation$EventRow" wsX2_numberAt G A) {a_t : Nat} {a_t_numbers : Nat} {a_t_kinds : Nat} {a_t_values : Nat} {a_t_answered : Nat} {N_t : Nat} {t_most : Int32} {t_length : Int32} {t_numbers : Nat → Int32} {out : Int32} : ∀ (x1 : Int32) (H : Heap) (locs : List Loc) (ls : Array Slot), fX2_numberAt N_t t_numbers x1 = some out → va_P G.1 vwCl (wdX2_numberAt G a_t a_t_numbers a_t_kinds a_t_values a_t_answered N_t t_most t_length t_numbers) H → va_D A (wdX2_numberAt G a_t a_t_numbers a_t_kinds a_t_values a_t_answered N_t t_most t_length t_numbers) → va_S A s.heap H locs → lv_has ls 2 [(0, .ref a_t), (1, .int x1)] → W p l e rmX2_numberAt s m args below meth c H locs 0 0 (MQ below (gQi G A out (wdX2_numberAt G a_t a_t_numbers a_t_kinds a_t_values a_t_answered N_t t_most t_length t_numbers)) args s 0 0 A) (F0 m 0 ls []) := by
  obtain ⟨hx, hb, hr, hml, hown, hts, hlocks, hA, hK⟩ := id C
  have hB : ∀ w ∈ BG, w.before args s = true := fun w h => hts w (List.mem_cons_of_mem _ h)
  intro x1 H locs ls h hP hD hS hl
  unfold fX2_numberAt at h
  refine lv_aload_n hx hb dX2_numberAt_0 rfl (lv_at hl 0 rfl) ?_
  refine va_get (D := G.1) (ci := 2) (v := .ref a_t_numbers) (C := RX2) (T := TX2) (N := 6) hx hb hB iX2 hown hK.1 hP 0 rfl rfl 2 (by decide) (hB _ kw237) (fun _ h9 => h9) rfl dX2_numberAt_1 ?_
  refine lv_iload_n hx hb dX2_numberAt_4 rfl (lv_at hl 1 rfl) ?_
  obtain ⟨hg1, h⟩ := grd_some h
  refine va_iald hx hb hK.1 hP 1 0 rfl rfl hg1 dX2_numberAt_5 ?_
  obtain rfl := Option.some.inj h
  exact W.iret (v := (t_numbers (ix x1))) hx hb hr (fun t ht hW => ⟨⟨_, (), rfl, rfl, by rw [ht]; exact hP, hD⟩, hS.F ht⟩) hS.2.2 dX2_numberAt_6
set_option maxHeartbeats 4000000 in
set_option maxRecDepth 100000 in
theorem mX2_numberAt (l : Launch) (G : GT) (a_t : Nat) (a_t_numbers : Nat) (a_t_kinds : Nat) (a_t_values : Nat) (a_t_answered : Nat) (N_t : Nat) (t_most : Int32) (t_length : Int32) (t_numbers : Nat → Int32) (x1 : Int32) (sz : Nat) (out : Int32) (h : fX2_numberAt N_t t_numbers x1 = some out) : Met l yX2_numberAt wsX2_numberAt rmX2_numberAt (gPc G [.ref a_t, .int x1] sz (wdX2_numberAt G a_t a_t_numbers a_t_kinds a_t_values a_t_answered N_t t_most t_length t_numbers)) (gQi G (va_A (wdX2_numberAt G a_t a_t_numbers a_t_kinds a_t_values a_t_answered N_t t_most t_length t_numbers) sz) out (wdX2_numberAt G a_t a_t_numbers a_t_kinds a_t_values a_t_answered N_t t_most t_length t_numbers)) 0 0 (va_A (wdX2_numberAt G a_t a_t_numbers a_t_kinds a_t_values a_t_answered N_t t_most t_length t_numbers) sz) := by
  refine Met.ofW (cc := cX2_numberAt) (maxL := 2) (ret := (some .int)) (by decide) rfl ?_
  intro p e s m args below meth c s₁ B hml hv
  obtain ⟨rfl, hsz, hP, hK, hD0⟩ := hv
  have hts := atoms_spec (ws := wsX2_numberAt) B.pre
  have hown : s.vm.findClass "OutStation$EventRow" = some m.cls := findClass_of_methodNamed B.named
  subst hsz
  have hD := hD0.self (sz := s.heap.size)
  generalize hAe : va_A (wdX2_numberAt G a_t a_t_numbers a_t_kinds a_t_values a_t_answered N_t t_most t_length t_numbers) s.heap.size = A at hD ⊢
  have hA : ∀ q : Nat, s.heap.size ≤ q → A q := fun q h => by rw [← hAe]; exact Or.inr h
  have hS : va_S A s.heap s.heap [] := va_S.rf
  have hl := lv_entry ([.ref a_t, .int x1]) (n := 2) (Nat.le_of_ble_eq_true rfl)
  rw [lg_entry_eq]
  generalize (lg_sl ([.ref a_t, .int x1]) ++ List.replicate (2 - (lg_sl ([.ref a_t, .int x1])).length) Slot.unset).toArray = ls at hl ⊢
  exact wX2_numberAt_E ⟨B.exec, B.bytes, B.returns, hml, hown, hts, B.notSynchronized, hA, hK⟩ x1 _ _ _ h hP hD hS hl
/-! ### OutStation$EventRow.valueAt (I)I -/
abbrev wdX2_valueAt (G : GT) (a_t : Nat) (a_t_values : Nat) (a_t_kinds : Nat) (a_t_numbers : Nat) (a_t_answered : Nat) (N_t : Nat) (t_most : Int32) (t_length : Int32) (t_values : Nat → Int32) : va_W := [(a_t, .inr (2, [.int t_most, .ref a_t_kinds, .ref a_t_numbers, .ref a_t_values, .ref a_t_answered, .int t_length])), (a_t_values, .inl (G.2.1, N_t, .inl t_values))]
abbrev wsX2_valueAt : List Cond := .code yX2_valueAt cX2_valueAt 2 (some .int) :: BG
abbrev rmX2_valueAt : Room := { frames := 0, cells := 0, slots := 0, locals := 0 }
noncomputable def fX2_valueAt (N_t : Nat) (t_values : Nat → Int32) (x1 : Int32) : Option (Int32) := grd (vp_in x1 N_t) (some ((t_values (ix x1))))
set_option maxHeartbeats 4000000 in
set_option maxRecDepth 100000 in
theorem wX2_valueAt_E {p : Program} {l : Launch} {e : Env} {s : State} {m : MethodId} {args : Array Value} {below : List Frame} {meth : Method} {c : Code} {G : GT} {A : Nat → Prop} (C : cxt p s m args meth c cX2_valueAt (some .int) 2 "OutStation$EventRow" wsX2_valueAt G A) {a_t : Nat} {a_t_values : Nat} {a_t_kinds : Nat} {a_t_numbers : Nat} {a_t_answered : Nat} {N_t : Nat} {t_most : Int32} {t_length : Int32} {t_values : Nat → Int32} {out : Int32} : ∀ (x1 : Int32) (H : Heap) (locs : List Loc) (ls : Array Slot), fX2_valueAt N_t t_values x1 = some out → va_P G.1 vwCl (wdX2_valueAt G a_t a_t_values a_t_kinds a_t_numbers a_t_answered N_t t_most t_length t_values) H → va_D A (wdX2_valueAt G a_t a_t_values a_t_kinds a_t_numbers a_t_answered N_t t_most t_length t_values) → va_S A s.heap H locs → lv_has ls 2 [(0, .ref a_t), (1, .int x1)] → W p l e rmX2_valueAt s m args below meth c H locs 0 0 (MQ below (gQi G A out (wdX2_valueAt G a_t a_t_values a_t_kinds a_t_numbers a_t_answered N_t t_most t_length t_values)) args s 0 0 A) (F0 m 0 ls []) := by
  obtain ⟨hx, hb, hr, hml, hown, hts, hlocks, hA, hK⟩ := id C
  have hB : ∀ w ∈ BG, w.before args s = true := fun w h => hts w (List.mem_cons_of_mem _ h)
  intro x1 H locs ls h hP hD hS hl
  unfold fX2_valueAt at h
  refine lv_aload_n hx hb dX2_valueAt_0 rfl (lv_at hl 0 rfl) ?_
  refine va_get (D := G.1) (ci := 2) (v := .ref a_t_values) (C := RX2) (T := TX2) (N := 6) hx hb hB iX2 hown hK.1 hP 0 rfl rfl 3 (by decide) (hB _ kw238) (fun _ h9 => h9) rfl dX2_valueAt_1 ?_
  refine lv_iload_n hx hb dX2_valueAt_4 rfl (lv_at hl 1 rfl) ?_
  obtain ⟨hg1, h⟩ := grd_some h
  refine va_iald hx hb hK.1 hP 1 0 rfl rfl hg1 dX2_valueAt_5 ?_
  obtain rfl := Option.some.inj h
  exact W.iret (v := (t_values (ix x1))) hx hb hr (fun t ht hW => ⟨⟨_, (), rfl, rfl, by rw [ht]; exact hP, hD⟩, hS.F ht⟩) hS.2.2 dX2_valueAt_6
set_option maxHeartbeats 4000000 in
set_option maxRecDepth 100000 in
theorem mX2_valueAt (l : Launch) (G : GT) (a_t : Nat) (a_t_values : Nat) (a_t_kinds : Nat) (a_t_numbers : Nat) (a_t_answered : Nat) (N_t : Nat) (t_most : Int32) (t_length : Int32) (t_values : Nat → Int32) (x1 : Int32) (sz : Nat) (out : Int32) (h : fX2_valueAt N_t t_values x1 = some out) : Met l yX2_valueAt wsX2_valueAt rmX2_valueAt (gPc G [.ref a_t, .int x1] sz (wdX2_valueAt G a_t a_t_values a_t_kinds a_t_numbers a_t_answered N_t t_most t_length t_values)) (gQi G (va_A (wdX2_valueAt G a_t a_t_values a_t_kinds a_t_numbers a_t_answered N_t t_most t_length t_values) sz) out (wdX2_valueAt G a_t a_t_values a_t_kinds a_t_numbers a_t_answered N_t t_most t_length t_values)) 0 0 (va_A (wdX2_valueAt G a_t a_t_values a_t_kinds a_t_numbers a_t_answered N_t t_most t_length t_values) sz) := by
  refine Met.ofW (cc := cX2_valueAt) (maxL := 2) (ret := (some .int)) (by decide) rfl ?_
  intro p e s m args below meth c s₁ B hml hv
  obtain ⟨rfl, hsz, hP, hK, hD0⟩ := hv
  have hts := atoms_spec (ws := wsX2_valueAt) B.pre
  have hown : s.vm.findClass "OutStation$EventRow" = some m.cls := findClass_of_methodNamed B.named
  subst hsz
  have hD := hD0.self (sz := s.heap.size)
  generalize hAe : va_A (wdX2_valueAt G a_t a_t_values a_t_kinds a_t_numbers a_t_answered N_t t_most t_length t_values) s.heap.size = A at hD ⊢
  have hA : ∀ q : Nat, s.heap.size ≤ q → A q := fun q h => by rw [← hAe]; exact Or.inr h
  have hS : va_S A s.heap s.heap [] := va_S.rf
  have hl := lv_entry ([.ref a_t, .int x1]) (n := 2) (Nat.le_of_ble_eq_true rfl)
  rw [lg_entry_eq]
  generalize (lg_sl ([.ref a_t, .int x1]) ++ List.replicate (2 - (lg_sl ([.ref a_t, .int x1])).length) Slot.unset).toArray = ls at hl ⊢
  exact wX2_valueAt_E ⟨B.exec, B.bytes, B.returns, hml, hown, hts, B.notSynchronized, hA, hK⟩ x1 _ _ _ h hP hD hS hl
/-! ### OutStation$EventRow.isAnswered (I)Z -/
abbrev wdX2_isAnswered (G : GT) (a_t : Nat) (a_t_answered : Nat) (a_t_kinds : Nat) (a_t_numbers : Nat) (a_t_values : Nat) (N_t : Nat) (t_most : Int32) (t_length : Int32) (t_answered : Nat → Int32) : va_W := [(a_t, .inr (2, [.int t_most, .ref a_t_kinds, .ref a_t_numbers, .ref a_t_values, .ref a_t_answered, .int t_length])), (a_t_answered, .inl (G.2.2.1, N_t, .inl t_answered))]
abbrev wsX2_isAnswered : List Cond := .code yX2_isAnswered cX2_isAnswered 2 (some .boolean) :: BG
abbrev rmX2_isAnswered : Room := { frames := 0, cells := 0, slots := 0, locals := 0 }
noncomputable def fX2_isAnswered (N_t : Nat) (t_answered : Nat → Int32) (x1 : Int32) : Option (Int32) := grd (vp_in x1 N_t) (grd (isB (t_answered (ix x1))) (some ((t_answered (ix x1)))))
set_option maxHeartbeats 4000000 in
set_option maxRecDepth 100000 in
theorem wX2_isAnswered_E {p : Program} {l : Launch} {e : Env} {s : State} {m : MethodId} {args : Array Value} {below : List Frame} {meth : Method} {c : Code} {G : GT} {A : Nat → Prop} (C : cxt p s m args meth c cX2_isAnswered (some .boolean) 2 "OutStation$EventRow" wsX2_isAnswered G A) {a_t : Nat} {a_t_answered : Nat} {a_t_kinds : Nat} {a_t_numbers : Nat} {a_t_values : Nat} {N_t : Nat} {t_most : Int32} {t_length : Int32} {t_answered : Nat → Int32} {out : Int32} : ∀ (x1 : Int32) (H : Heap) (locs : List Loc) (ls : Array Slot), fX2_isAnswered N_t t_answered x1 = some out → va_P G.1 vwCl (wdX2_isAnswered G a_t a_t_answered a_t_kinds a_t_numbers a_t_values N_t t_most t_length t_answered) H → va_D A (wdX2_isAnswered G a_t a_t_answered a_t_kinds a_t_numbers a_t_values N_t t_most t_length t_answered) → va_S A s.heap H locs → lv_has ls 2 [(0, .ref a_t), (1, .int x1)] → W p l e rmX2_isAnswered s m args below meth c H locs 0 0 (MQ below (gQi G A out (wdX2_isAnswered G a_t a_t_answered a_t_kinds a_t_numbers a_t_values N_t t_most t_length t_answered)) args s 0 0 A) (F0 m 0 ls []) := by
  obtain ⟨hx, hb, hr, hml, hown, hts, hlocks, hA, hK⟩ := id C
  have hB : ∀ w ∈ BG, w.before args s = true := fun w h => hts w (List.mem_cons_of_mem _ h)
  intro x1 H locs ls h hP hD hS hl
  unfold fX2_isAnswered at h
  refine lv_aload_n hx hb dX2_isAnswered_0 rfl (lv_at hl 0 rfl) ?_
  refine va_get (D := G.1) (ci := 2) (v := .ref a_t_answered) (C := RX2) (T := TX2) (N := 6) hx hb hB iX2 hown hK.1 hP 0 rfl rfl 4 (by decide) (hB _ kw239) (fun _ h9 => h9) rfl dX2_isAnswered_1 ?_
  refine lv_iload_n hx hb dX2_isAnswered_4 rfl (lv_at hl 1 rfl) ?_
  obtain ⟨hg1, h⟩ := grd_some h
  refine va_zald hx hb hK.1 hP 1 1 rfl rfl hg1 dX2_isAnswered_5 ?_
  obtain ⟨hg2, h⟩ := grd_some h
  obtain rfl := Option.some.inj h
  exact W.zret (v := (t_answered (ix x1))) hx hb hr (isB_nar hg2) (fun t ht hW => ⟨⟨_, (), rfl, rfl, by rw [ht]; exact hP, hD⟩, hS.F ht⟩) hS.2.2 dX2_isAnswered_6
set_option maxHeartbeats 4000000 in
set_option maxRecDepth 100000 in
theorem mX2_isAnswered (l : Launch) (G : GT) (a_t : Nat) (a_t_answered : Nat) (a_t_kinds : Nat) (a_t_numbers : Nat) (a_t_values : Nat) (N_t : Nat) (t_most : Int32) (t_length : Int32) (t_answered : Nat → Int32) (x1 : Int32) (sz : Nat) (out : Int32) (h : fX2_isAnswered N_t t_answered x1 = some out) : Met l yX2_isAnswered wsX2_isAnswered rmX2_isAnswered (gPc G [.ref a_t, .int x1] sz (wdX2_isAnswered G a_t a_t_answered a_t_kinds a_t_numbers a_t_values N_t t_most t_length t_answered)) (gQi G (va_A (wdX2_isAnswered G a_t a_t_answered a_t_kinds a_t_numbers a_t_values N_t t_most t_length t_answered) sz) out (wdX2_isAnswered G a_t a_t_answered a_t_kinds a_t_numbers a_t_values N_t t_most t_length t_answered)) 0 0 (va_A (wdX2_isAnswered G a_t a_t_answered a_t_kinds a_t_numbers a_t_values N_t t_most t_length t_answered) sz) := by
  refine Met.ofW (cc := cX2_isAnswered) (maxL := 2) (ret := (some .boolean)) (by decide) rfl ?_
  intro p e s m args below meth c s₁ B hml hv
  obtain ⟨rfl, hsz, hP, hK, hD0⟩ := hv
  have hts := atoms_spec (ws := wsX2_isAnswered) B.pre
  have hown : s.vm.findClass "OutStation$EventRow" = some m.cls := findClass_of_methodNamed B.named
  subst hsz
  have hD := hD0.self (sz := s.heap.size)
  generalize hAe : va_A (wdX2_isAnswered G a_t a_t_answered a_t_kinds a_t_numbers a_t_values N_t t_most t_length t_answered) s.heap.size = A at hD ⊢
  have hA : ∀ q : Nat, s.heap.size ≤ q → A q := fun q h => by rw [← hAe]; exact Or.inr h
  have hS : va_S A s.heap s.heap [] := va_S.rf
  have hl := lv_entry ([.ref a_t, .int x1]) (n := 2) (Nat.le_of_ble_eq_true rfl)
  rw [lg_entry_eq]
  generalize (lg_sl ([.ref a_t, .int x1]) ++ List.replicate (2 - (lg_sl ([.ref a_t, .int x1])).length) Slot.unset).toArray = ls at hl ⊢
  exact wX2_isAnswered_E ⟨B.exec, B.bytes, B.returns, hml, hown, hts, B.notSynchronized, hA, hK⟩ x1 _ _ _ h hP hD hS hl
/-! ### OutStation$EventRow.markAnswered (I)V -/
abbrev wdX2_markAnswered (G : GT) (a_t : Nat) (a_t_answered : Nat) (a_t_kinds : Nat) (a_t_numbers : Nat) (a_t_values : Nat) (N_t : Nat) (t_most : Int32) (t_length : Int32) (t_answered : Nat → Int32) : va_W := [(a_t, .inr (2, [.int t_most, .ref a_t_kinds, .ref a_t_numbers, .ref a_t_values, .ref a_t_answered, .int t_length])), (a_t_answered, .inl (G.2.2.1, N_t, .inl t_answered))]
abbrev wsX2_markAnswered : List Cond := .code yX2_markAnswered cX2_markAnswered 2 none :: BG
abbrev rmX2_markAnswered : Room := { frames := 0, cells := 0, slots := 0, locals := 0 }
noncomputable def fX2_markAnswered (N_t : Nat) (x1 : Int32) (t_answered : Nat → Int32) : Option ((Nat → Int32)) := grd (vp_in x1 N_t) (some ((upd t_answered (ix x1) (1 : Int32))))
set_option maxHeartbeats 4000000 in
set_option maxRecDepth 100000 in
theorem wX2_markAnswered_E {p : Program} {l : Launch} {e : Env} {s : State} {m : MethodId} {args : Array Value} {below : List Frame} {meth : Method} {c : Code} {G : GT} {A : Nat → Prop} (C : cxt p s m args meth c cX2_markAnswered none 2 "OutStation$EventRow" wsX2_markAnswered G A) {a_t : Nat} {a_t_answered : Nat} {a_t_kinds : Nat} {a_t_numbers : Nat} {a_t_values : Nat} {N_t : Nat} {t_most : Int32} {t_length : Int32} {out : (Nat → Int32)} : ∀ (x1 : Int32) (t_answered : Nat → Int32) (H : Heap) (locs : List Loc) (ls : Array Slot), fX2_markAnswered N_t x1 t_answered = some out → va_P G.1 vwCl (wdX2_markAnswered G a_t a_t_answered a_t_kinds a_t_numbers a_t_values N_t t_most t_length t_answered) H → va_D A (wdX2_markAnswered G a_t a_t_answered a_t_kinds a_t_numbers a_t_values N_t t_most t_length t_answered) → va_S A s.heap H locs → lv_has ls 2 [(0, .ref a_t), (1, .int x1)] → W p l e rmX2_markAnswered s m args below meth c H locs 0 0 (MQ below (gQv G A (wdX2_markAnswered G a_t a_t_answered a_t_kinds a_t_numbers a_t_values N_t t_most t_length out)) args s 0 0 A) (F0 m 0 ls []) := by
  obtain ⟨hx, hb, hr, hml, hown, hts, hlocks, hA, hK⟩ := id C
  have hB : ∀ w ∈ BG, w.before args s = true := fun w h => hts w (List.mem_cons_of_mem _ h)
  intro x1 t_answered H locs ls h hP hD hS hl
  unfold fX2_markAnswered at h
  refine lv_aload_n hx hb dX2_markAnswered_0 rfl (lv_at hl 0 rfl) ?_
  refine va_get (D := G.1) (ci := 2) (v := .ref a_t_answered) (C := RX2) (T := TX2) (N := 6) hx hb hB iX2 hown hK.1 hP 0 rfl rfl 4 (by decide) (hB _ kw239) (fun _ h9 => h9) rfl dX2_markAnswered_1 ?_
  refine lv_iload_n hx hb dX2_markAnswered_4 rfl (lv_at hl 1 rfl) ?_
  refine lv_iconst (v := (1 : Int32)) hx hb dX2_markAnswered_5 (by decide) ?_
  obtain ⟨hg1, h⟩ := grd_some h
  refine va_zast hx hb hK.1 hP hD hS 1 1 rfl rfl hg1 dX2_markAnswered_6 (fun H locs hP hD hS => ?_)
  rw [isB_vp (Or.inr rfl)] at hP hD
  have hP : va_P G.1 vwCl (wdX2_markAnswered G a_t a_t_answered a_t_kinds a_t_numbers a_t_values N_t t_most t_length (upd t_answered (ix x1) (1 : Int32))) H := hP
  have hD : va_D A (wdX2_markAnswered G a_t a_t_answered a_t_kinds a_t_numbers a_t_values N_t t_most t_length (upd t_answered (ix x1) (1 : Int32))) := hD
  obtain rfl := Option.some.inj h
  exact W.vret hx hb hr (fun t ht hW => ⟨⟨(), rfl, trivial, by rw [ht]; exact hP, hD⟩, hS.F ht⟩) hS.2.2 dX2_markAnswered_7
set_option maxHeartbeats 4000000 in
set_option maxRecDepth 100000 in
theorem mX2_markAnswered (l : Launch) (G : GT) (a_t : Nat) (a_t_answered : Nat) (a_t_kinds : Nat) (a_t_numbers : Nat) (a_t_values : Nat) (N_t : Nat) (t_most : Int32) (t_length : Int32) (x1 : Int32) (t_answered : Nat → Int32) (sz : Nat) (out : (Nat → Int32)) (h : fX2_markAnswered N_t x1 t_answered = some out) : Met l yX2_markAnswered wsX2_markAnswered rmX2_markAnswered (gPc G [.ref a_t, .int x1] sz (wdX2_markAnswered G a_t a_t_answered a_t_kinds a_t_numbers a_t_values N_t t_most t_length t_answered)) (gQv G (va_A (wdX2_markAnswered G a_t a_t_answered a_t_kinds a_t_numbers a_t_values N_t t_most t_length t_answered) sz) (wdX2_markAnswered G a_t a_t_answered a_t_kinds a_t_numbers a_t_values N_t t_most t_length out)) 0 0 (va_A (wdX2_markAnswered G a_t a_t_answered a_t_kinds a_t_numbers a_t_values N_t t_most t_length t_answered) sz) := by
  refine Met.ofW (cc := cX2_markAnswered) (maxL := 2) (ret := none) (by decide) rfl ?_
  intro p e s m args below meth c s₁ B hml hv
  obtain ⟨rfl, hsz, hP, hK, hD0⟩ := hv
  have hts := atoms_spec (ws := wsX2_markAnswered) B.pre
  have hown : s.vm.findClass "OutStation$EventRow" = some m.cls := findClass_of_methodNamed B.named
  subst hsz
  have hD := hD0.self (sz := s.heap.size)
  generalize hAe : va_A (wdX2_markAnswered G a_t a_t_answered a_t_kinds a_t_numbers a_t_values N_t t_most t_length t_answered) s.heap.size = A at hD ⊢
  have hA : ∀ q : Nat, s.heap.size ≤ q → A q := fun q h => by rw [← hAe]; exact Or.inr h
  have hS : va_S A s.heap s.heap [] := va_S.rf
  have hl := lv_entry ([.ref a_t, .int x1]) (n := 2) (Nat.le_of_ble_eq_true rfl)
  rw [lg_entry_eq]
  generalize (lg_sl ([.ref a_t, .int x1]) ++ List.replicate (2 - (lg_sl ([.ref a_t, .int x1])).length) Slot.unset).toArray = ls at hl ⊢
  exact wX2_markAnswered_E ⟨B.exec, B.bytes, B.returns, hml, hown, hts, B.notSynchronized, hA, hK⟩ x1 t_answered _ _ _ h hP hD hS hl
/-! ### OutStation$EventRow.append (III)V -/
abbrev wdX2_append (G : GT) (a_t : Nat) (a_t_answered : Nat) (a_t_kinds : Nat) (a_t_numbers : Nat) (a_t_values : Nat) (N_t : Nat) (t_most : Int32) (t_length : Int32) (t_answered : Nat → Int32) (t_kinds : Nat → Int32) (t_numbers : Nat → Int32) (t_values : Nat → Int32) : va_W := [(a_t, .inr (2, [.int t_most, .ref a_t_kinds, .ref a_t_numbers, .ref a_t_values, .ref a_t_answered, .int t_length])), (a_t_answered, .inl (G.2.2.1, N_t, .inl t_answered)), (a_t_kinds, .inl (G.2.1, N_t, .inl t_kinds)), (a_t_numbers, .inl (G.2.1, N_t, .inl t_numbers)), (a_t_values, .inl (G.2.1, N_t, .inl t_values))]
abbrev wsX2_append : List Cond := .code yX2_append cX2_append 4 none :: BG
abbrev rmX2_append : Room := { frames := 1, cells := 0, slots := 0, locals := 20 }
noncomputable def fX2_append (N_t : Nat) (t_most : Int32) (x1 : Int32) (x2 : Int32) (x3 : Int32) (t_length : Int32) (t_answered : Nat → Int32) (t_kinds : Nat → Int32) (t_numbers : Nat → Int32) (t_values : Nat → Int32) : Option (Int32 × (Nat → Int32) × (Nat → Int32) × (Nat → Int32) × (Nat → Int32)) := bnd (fX2_isFull t_most t_length) (fun u1 => brc (u1 = 0) (grd (vp_in t_length N_t) (grd (vp_in t_length N_t) (grd (vp_in t_length N_t) (grd (vp_in t_length N_t) (some ((t_length + (1 : Int32)), (upd t_answered (ix t_length) (0 : Int32)), (upd t_kinds (ix t_length) x1), (upd t_numbers (ix t_length) x2), (upd t_values (ix t_length) x3))))))) (some (t_length, t_answered, t_kinds, t_numbers, t_values)))
set_option maxHeartbeats 4000000 in
set_option maxRecDepth 100000 in
theorem wX2_append_E {p : Program} {l : Launch} {e : Env} {s : State} {m : MethodId} {args : Array Value} {below : List Frame} {meth : Method} {c : Code} {G : GT} {A : Nat → Prop} (C : cxt p s m args meth c cX2_append none 4 "OutStation$EventRow" wsX2_append G A) {a_t : Nat} {a_t_answered : Nat} {a_t_kinds : Nat} {a_t_numbers : Nat} {a_t_values : Nat} {N_t : Nat} {t_most : Int32} {out : Int32 × (Nat → Int32) × (Nat → Int32) × (Nat → Int32) × (Nat → Int32)} : ∀ (x1 : Int32) (x2 : Int32) (x3 : Int32) (t_length : Int32) (t_answered : Nat → Int32) (t_kinds : Nat → Int32) (t_numbers : Nat → Int32) (t_values : Nat → Int32) (H : Heap) (locs : List Loc) (ls : Array Slot), fX2_append N_t t_most x1 x2 x3 t_length t_answered t_kinds t_numbers t_values = some out → va_P G.1 vwCl (wdX2_append G a_t a_t_answered a_t_kinds a_t_numbers a_t_values N_t t_most t_length t_answered t_kinds t_numbers t_values) H → va_D A (wdX2_append G a_t a_t_answered a_t_kinds a_t_numbers a_t_values N_t t_most t_length t_answered t_kinds t_numbers t_values) → va_S A s.heap H locs → lv_has ls 4 [(0, .ref a_t), (1, .int x1), (2, .int x2), (3, .int x3)] → W p l e rmX2_append s m args below meth c H locs 0 0 (MQ below (gQv G A (wdX2_append G a_t a_t_answered a_t_kinds a_t_numbers a_t_values N_t t_most out.1 out.2.1 out.2.2.1 out.2.2.2.1 out.2.2.2.2)) args s 0 0 A) (F0 m 0 ls []) := by
  obtain ⟨hx, hb, hr, hml, hown, hts, hlocks, hA, hK⟩ := id C
  have hB : ∀ w ∈ BG, w.before args s = true := fun w h => hts w (List.mem_cons_of_mem _ h)
  intro x1 x2 x3 t_length t_answered t_kinds t_numbers t_values H locs ls h hP hD hS hl
  unfold fX2_append at h
  refine lv_aload_n hx hb dX2_append_0 rfl (lv_at hl 0 rfl) ?_
  obtain ⟨u1, hu1, h⟩ := bnd_some h
  have hPc := hP.sub (ws' := (wdX2_isFull G a_t a_t_kinds a_t_numbers a_t_values a_t_answered t_most t_length)) [0] rfl
  have hDc := hD.sub (ws' := (wdX2_isFull G a_t a_t_kinds a_t_numbers a_t_values a_t_answered t_most t_length)) [0] (by decide) rfl
  refine g_i (wc := (wdX2_isFull G a_t a_t_kinds a_t_numbers a_t_values a_t_answered t_most t_length)) (w1 := (wdX2_isFull G a_t a_t_kinds a_t_numbers a_t_values a_t_answered t_most t_length)) (w2 := (wdX2_append G a_t a_t_answered a_t_kinds a_t_numbers a_t_values N_t t_most t_length t_answered t_kinds t_numbers t_values)) (va_runV (As := []) (rest := []) ⟨hx, hb, hml, hown, hts⟩ (mX2_isFull l G a_t a_t_kinds a_t_numbers a_t_values a_t_answered t_most t_length H.size u1 hu1) ⟨(callB_of 0 hts (bgIn kw782) rfl rfl rfl (hB _ kw55) (hB _ kw792) hdX2_isFull ⟨(Nat.le_of_ble_eq_true rfl), (Nat.le_of_ble_eq_true rfl)⟩), hB _ kw780, hB _ kw781⟩ (gPreV (ci := 2) (qr := 0) hK hPc hDc rfl rfl rfl) rfl rfl hl.1 rfl (lv_room (Nat.le_of_ble_eq_true rfl)) dX2_append_1 ⟨(Nat.le_of_ble_eq_true rfl), (Nat.le_of_ble_eq_true rfl)⟩) hP hD hS hA [0] rfl rfl [.inr 0, .inl 1, .inl 2, .inl 3, .inl 4] rfl rfl (fun H locs hP hD hS => ?_)
  refine lv_if_eq (tgt := 8) hx hb dX2_append_4 (by decide) (fun hc4 => ?_) (fun hc4 => ?_)
  · have h := brc_tt h hc4
    refine lv_aload_n hx hb dX2_append_8 rfl (lv_at hl 0 rfl) ?_
    refine va_get (D := G.1) (ci := 2) (v := .ref a_t_kinds) (C := RX2) (T := TX2) (N := 6) hx hb hB iX2 hown hK.1 hP 0 rfl rfl 1 (by decide) (hB _ kw236) (fun _ h9 => h9) rfl dX2_append_9 ?_
    refine lv_aload_n hx hb dX2_append_12 rfl (lv_at hl 0 rfl) ?_
    refine va_get (D := G.1) (ci := 2) (v := .int t_length) (C := RX2) (T := TX2) (N := 6) hx hb hB iX2 hown hK.1 hP 0 rfl rfl 5 (by decide) (hB _ kw240) (fun _ h9 => h9) rfl dX2_append_13 ?_
    refine lv_iload_n hx hb dX2_append_16 rfl (lv_at hl 1 rfl) ?_
    obtain ⟨hg2, h⟩ := grd_some h
    refine va_iast hx hb hK.1 hP hD hS 2 0 rfl rfl hg2 dX2_append_17 (fun H locs hP hD hS => ?_)
    have hP : va_P G.1 vwCl (wdX2_append G a_t a_t_answered a_t_kinds a_t_numbers a_t_values N_t t_most t_length t_answered (upd t_kinds (ix t_length) x1) t_numbers t_values) H := hP
    have hD : va_D A (wdX2_append G a_t a_t_answered a_t_kinds a_t_numbers a_t_values N_t t_most t_length t_answered (upd t_kinds (ix t_length) x1) t_numbers t_values) := hD
    refine lv_aload_n hx hb dX2_append_18 rfl (lv_at hl 0 rfl) ?_
    refine va_get (D := G.1) (ci := 2) (v := .ref a_t_numbers) (C := RX2) (T := TX2) (N := 6) hx hb hB iX2 hown hK.1 hP 0 rfl rfl 2 (by decide) (hB _ kw237) (fun _ h9 => h9) rfl dX2_append_19 ?_
    refine lv_aload_n hx hb dX2_append_22 rfl (lv_at hl 0 rfl) ?_
    refine va_get (D := G.1) (ci := 2) (v := .int t_length) (C := RX2) (T := TX2) (N := 6) hx hb hB iX2 hown hK.1 hP 0 rfl rfl 5 (by decide) (hB _ kw240) (fun _ h9 => h9) rfl dX2_append_23 ?_
    refine lv_iload_n hx hb dX2_append_26 rfl (lv_at hl 2 rfl) ?_
    obtain ⟨hg3, h⟩ := grd_some h
    refine va_iast hx hb hK.1 hP hD hS 3 0 rfl rfl hg3 dX2_append_27 (fun H locs hP hD hS => ?_)
    have hP : va_P G.1 vwCl (wdX2_append G a_t a_t_answered a_t_kinds a_t_numbers a_t_values N_t t_most t_length t_answered (upd t_kinds (ix t_length) x1) (upd t_numbers (ix t_length) x2) t_values) H := hP
    have hD : va_D A (wdX2_append G a_t a_t_answered a_t_kinds a_t_numbers a_t_values N_t t_most t_length t_answered (upd t_kinds (ix t_length) x1) (upd t_numbers (ix t_length) x2) t_values) := hD
    refine lv_aload_n hx hb dX2_append_28 rfl (lv_at hl 0 rfl) ?_
    refine va_get (D := G.1) (ci := 2) (v := .ref a_t_values) (C := RX2) (T := TX2) (N := 6) hx hb hB iX2 hown hK.1 hP 0 rfl rfl 3 (by decide) (hB _ kw238) (fun _ h9 => h9) rfl dX2_append_29 ?_
    refine lv_aload_n hx hb dX2_append_32 rfl (lv_at hl 0 rfl) ?_
    refine va_get (D := G.1) (ci := 2) (v := .int t_length) (C := RX2) (T := TX2) (N := 6) hx hb hB iX2 hown hK.1 hP 0 rfl rfl 5 (by decide) (hB _ kw240) (fun _ h9 => h9) rfl dX2_append_33 ?_
    refine lv_iload_n hx hb dX2_append_36 rfl (lv_at hl 3 rfl) ?_
    obtain ⟨hg4, h⟩ := grd_some h
    refine va_iast hx hb hK.1 hP hD hS 4 0 rfl rfl hg4 dX2_append_37 (fun H locs hP hD hS => ?_)
    have hP : va_P G.1 vwCl (wdX2_append G a_t a_t_answered a_t_kinds a_t_numbers a_t_values N_t t_most t_length t_answered (upd t_kinds (ix t_length) x1) (upd t_numbers (ix t_length) x2) (upd t_values (ix t_length) x3)) H := hP
    have hD : va_D A (wdX2_append G a_t a_t_answered a_t_kinds a_t_numbers a_t_values N_t t_most t_length t_answered (upd t_kinds (ix t_length) x1) (upd t_numbers (ix t_length) x2) (upd t_values (ix t_length) x3)) := hD
    refine lv_aload_n hx hb dX2_append_38 rfl (lv_at hl 0 rfl) ?_
    refine va_get (D := G.1) (ci := 2) (v := .ref a_t_answered) (C := RX2) (T := TX2) (N := 6) hx hb hB iX2 hown hK.1 hP 0 rfl rfl 4 (by decide) (hB _ kw239) (fun _ h9 => h9) rfl dX2_append_39 ?_
    refine lv_aload_n hx hb dX2_append_42 rfl (lv_at hl 0 rfl) ?_
    refine va_get (D := G.1) (ci := 2) (v := .int t_length) (C := RX2) (T := TX2) (N := 6) hx hb hB iX2 hown hK.1 hP 0 rfl rfl 5 (by decide) (hB _ kw240) (fun _ h9 => h9) rfl dX2_append_43 ?_
    refine lv_iconst (v := (0 : Int32)) hx hb dX2_append_46 (by decide) ?_
    obtain ⟨hg5, h⟩ := grd_some h
    refine va_zast hx hb hK.1 hP hD hS 1 1 rfl rfl hg5 dX2_append_47 (fun H locs hP hD hS => ?_)
    rw [isB_vp (Or.inl rfl)] at hP hD
    have hP : va_P G.1 vwCl (wdX2_append G a_t a_t_answered a_t_kinds a_t_numbers a_t_values N_t t_most t_length (upd t_answered (ix t_length) (0 : Int32)) (upd t_kinds (ix t_length) x1) (upd t_numbers (ix t_length) x2) (upd t_values (ix t_length) x3)) H := hP
    have hD : va_D A (wdX2_append G a_t a_t_answered a_t_kinds a_t_numbers a_t_values N_t t_most t_length (upd t_answered (ix t_length) (0 : Int32)) (upd t_kinds (ix t_length) x1) (upd t_numbers (ix t_length) x2) (upd t_values (ix t_length) x3)) := hD
    refine lv_aload_n hx hb dX2_append_48 rfl (lv_at hl 0 rfl) ?_
    refine lv_dup hx hb dX2_append_49 rfl ?_
    refine va_get (D := G.1) (ci := 2) (v := .int t_length) (C := RX2) (T := TX2) (N := 6) hx hb hB iX2 hown hK.1 hP 0 rfl rfl 5 (by decide) (hB _ kw240) (fun _ h9 => h9) rfl dX2_append_50 ?_
    refine lv_iconst (v := (1 : Int32)) hx hb dX2_append_53 (by decide) ?_
    refine lv_iadd hx hb dX2_append_54 ?_
    refine va_put (D := G.1) (ci := 2) (v := .int (t_length + (1 : Int32))) (ty := .int) (C := RX2) (T := TX2) (N := 6) hx hb hB iX2 tyX2 tyX2_ok nmX2 hown hK.1 hP hD hS 0 rfl rfl 5 (by decide) (hB _ kw240) (fun _ h9 => h9) rfl (by decide +kernel) rfl rfl (Nat.le_of_ble_eq_true rfl) dX2_append_55 (fun H locs hP hD hS => ?_)
    have hP : va_P G.1 vwCl (wdX2_append G a_t a_t_answered a_t_kinds a_t_numbers a_t_values N_t t_most (t_length + (1 : Int32)) (upd t_answered (ix t_length) (0 : Int32)) (upd t_kinds (ix t_length) x1) (upd t_numbers (ix t_length) x2) (upd t_values (ix t_length) x3)) H := hP
    have hD : va_D A (wdX2_append G a_t a_t_answered a_t_kinds a_t_numbers a_t_values N_t t_most (t_length + (1 : Int32)) (upd t_answered (ix t_length) (0 : Int32)) (upd t_kinds (ix t_length) x1) (upd t_numbers (ix t_length) x2) (upd t_values (ix t_length) x3)) := hD
    obtain rfl := Option.some.inj h
    exact W.vret hx hb hr (fun t ht hW => ⟨⟨(), rfl, trivial, by rw [ht]; exact hP, hD⟩, hS.F ht⟩) hS.2.2 dX2_append_58
  · have h := brc_ff h hc4
    obtain rfl := Option.some.inj h
    exact W.vret hx hb hr (fun t ht hW => ⟨⟨(), rfl, trivial, by rw [ht]; exact hP, hD⟩, hS.F ht⟩) hS.2.2 dX2_append_7
set_option maxHeartbeats 4000000 in
set_option maxRecDepth 100000 in
theorem mX2_append (l : Launch) (G : GT) (a_t : Nat) (a_t_answered : Nat) (a_t_kinds : Nat) (a_t_numbers : Nat) (a_t_values : Nat) (N_t : Nat) (t_most : Int32) (x1 : Int32) (x2 : Int32) (x3 : Int32) (t_length : Int32) (t_answered : Nat → Int32) (t_kinds : Nat → Int32) (t_numbers : Nat → Int32) (t_values : Nat → Int32) (sz : Nat) (out : Int32 × (Nat → Int32) × (Nat → Int32) × (Nat → Int32) × (Nat → Int32)) (h : fX2_append N_t t_most x1 x2 x3 t_length t_answered t_kinds t_numbers t_values = some out) : Met l yX2_append wsX2_append rmX2_append (gPc G [.ref a_t, .int x1, .int x2, .int x3] sz (wdX2_append G a_t a_t_answered a_t_kinds a_t_numbers a_t_values N_t t_most t_length t_answered t_kinds t_numbers t_values)) (gQv G (va_A (wdX2_append G a_t a_t_answered a_t_kinds a_t_numbers a_t_values N_t t_most t_length t_answered t_kinds t_numbers t_values) sz) (wdX2_append G a_t a_t_answered a_t_kinds a_t_numbers a_t_values N_t t_most out.1 out.2.1 out.2.2.1 out.2.2.2.1 out.2.2.2.2)) 0 0 (va_A (wdX2_append G a_t a_t_answered a_t_kinds a_t_numbers a_t_values N_t t_most t_length t_answered t_kinds t_numbers t_values) sz) := by
  refine Met.ofW (cc := cX2_append) (maxL := 4) (ret := none) (by decide) rfl ?_
  intro p e s m args below meth c s₁ B hml hv
  obtain ⟨rfl, hsz, hP, hK, hD0⟩ := hv
  have hts := atoms_spec (ws := wsX2_append) B.pre
  have hown : s.vm.findClass "OutStation$EventRow" = some m.cls := findClass_of_methodNamed B.named
  subst hsz
  have hD := hD0.self (sz := s.heap.size)
  generalize hAe : va_A (wdX2_append G a_t a_t_answered a_t_kinds a_t_numbers a_t_values N_t t_most t_length t_answered t_kinds t_numbers t_values) s.heap.size = A at hD ⊢
  have hA : ∀ q : Nat, s.heap.size ≤ q → A q := fun q h => by rw [← hAe]; exact Or.inr h
  have hS : va_S A s.heap s.heap [] := va_S.rf
  have hl := lv_entry ([.ref a_t, .int x1, .int x2, .int x3]) (n := 4) (Nat.le_of_ble_eq_true rfl)
  rw [lg_entry_eq]
  generalize (lg_sl ([.ref a_t, .int x1, .int x2, .int x3]) ++ List.replicate (4 - (lg_sl ([.ref a_t, .int x1, .int x2, .int x3])).length) Slot.unset).toArray = ls at hl ⊢
  exact wX2_append_E ⟨B.exec, B.bytes, B.returns, hml, hown, hts, B.notSynchronized, hA, hK⟩ x1 x2 x3 t_length t_answered t_kinds t_numbers t_values _ _ _ h hP hD hS hl
/-! ### OutStation$EventRow.move (II)V -/
abbrev wdX2_move (G : GT) (a_t : Nat) (a_t_answered : Nat) (a_t_kinds : Nat) (a_t_numbers : Nat) (a_t_values : Nat) (N_t : Nat) (t_most : Int32) (t_length : Int32) (t_answered : Nat → Int32) (t_kinds : Nat → Int32) (t_numbers : Nat → Int32) (t_values : Nat → Int32) : va_W := [(a_t, .inr (2, [.int t_most, .ref a_t_kinds, .ref a_t_numbers, .ref a_t_values, .ref a_t_answered, .int t_length])), (a_t_answered, .inl (G.2.2.1, N_t, .inl t_answered)), (a_t_kinds, .inl (G.2.1, N_t, .inl t_kinds)), (a_t_numbers, .inl (G.2.1, N_t, .inl t_numbers)), (a_t_values, .inl (G.2.1, N_t, .inl t_values))]
abbrev wsX2_move : List Cond := .code yX2_move cX2_move 3 none :: BG
abbrev rmX2_move : Room := { frames := 0, cells := 0, slots := 0, locals := 0 }
noncomputable def fX2_move (N_t : Nat) (x1 : Int32) (x2 : Int32) (t_answered : Nat → Int32) (t_kinds : Nat → Int32) (t_numbers : Nat → Int32) (t_values : Nat → Int32) : Option ((Nat → Int32) × (Nat → Int32) × (Nat → Int32) × (Nat → Int32)) := grd (vp_in x1 N_t) (grd (vp_in x2 N_t) (grd (vp_in x1 N_t) (grd (vp_in x2 N_t) (grd (vp_in x1 N_t) (grd (vp_in x2 N_t) (grd (vp_in x1 N_t) (grd (vp_in x2 N_t) (grd (isB (t_answered (ix x1))) (some ((upd t_answered (ix x2) (t_answered (ix x1))), (upd t_kinds (ix x2) (t_kinds (ix x1))), (upd t_numbers (ix x2) (t_numbers (ix x1))), (upd t_values (ix x2) (t_values (ix x1)))))))))))))
set_option maxHeartbeats 4000000 in
set_option maxRecDepth 100000 in
theorem wX2_move_E {p : Program} {l : Launch} {e : Env} {s : State} {m : MethodId} {args : Array Value} {below : List Frame} {meth : Method} {c : Code} {G : GT} {A : Nat → Prop} (C : cxt p s m args meth c cX2_move none 3 "OutStation$EventRow" wsX2_move G A) {a_t : Nat} {a_t_answered : Nat} {a_t_kinds : Nat} {a_t_numbers : Nat} {a_t_values : Nat} {N_t : Nat} {t_most : Int32} {t_length : Int32} {out : (Nat → Int32) × (Nat → Int32) × (Nat → Int32) × (Nat → Int32)} : ∀ (x1 : Int32) (x2 : Int32) (t_answered : Nat → Int32) (t_kinds : Nat → Int32) (t_numbers : Nat → Int32) (t_values : Nat → Int32) (H : Heap) (locs : List Loc) (ls : Array Slot), fX2_move N_t x1 x2 t_answered t_kinds t_numbers t_values = some out → va_P G.1 vwCl (wdX2_move G a_t a_t_answered a_t_kinds a_t_numbers a_t_values N_t t_most t_length t_answered t_kinds t_numbers t_values) H → va_D A (wdX2_move G a_t a_t_answered a_t_kinds a_t_numbers a_t_values N_t t_most t_length t_answered t_kinds t_numbers t_values) → va_S A s.heap H locs → lv_has ls 3 [(0, .ref a_t), (1, .int x1), (2, .int x2)] → W p l e rmX2_move s m args below meth c H locs 0 0 (MQ below (gQv G A (wdX2_move G a_t a_t_answered a_t_kinds a_t_numbers a_t_values N_t t_most t_length out.1 out.2.1 out.2.2.1 out.2.2.2)) args s 0 0 A) (F0 m 0 ls []) := by
  obtain ⟨hx, hb, hr, hml, hown, hts, hlocks, hA, hK⟩ := id C
  have hB : ∀ w ∈ BG, w.before args s = true := fun w h => hts w (List.mem_cons_of_mem _ h)
  intro x1 x2 t_answered t_kinds t_numbers t_values H locs ls h hP hD hS hl
  unfold fX2_move at h
  refine lv_aload_n hx hb dX2_move_0 rfl (lv_at hl 0 rfl) ?_
  refine va_get (D := G.1) (ci := 2) (v := .ref a_t_kinds) (C := RX2) (T := TX2) (N := 6) hx hb hB iX2 hown hK.1 hP 0 rfl rfl 1 (by decide) (hB _ kw236) (fun _ h9 => h9) rfl dX2_move_1 ?_
  refine lv_iload_n hx hb dX2_move_4 rfl (lv_at hl 2 rfl) ?_
  refine lv_aload_n hx hb dX2_move_5 rfl (lv_at hl 0 rfl) ?_
  refine va_get (D := G.1) (ci := 2) (v := .ref a_t_kinds) (C := RX2) (T := TX2) (N := 6) hx hb hB iX2 hown hK.1 hP 0 rfl rfl 1 (by decide) (hB _ kw236) (fun _ h9 => h9) rfl dX2_move_6 ?_
  refine lv_iload_n hx hb dX2_move_9 rfl (lv_at hl 1 rfl) ?_
  obtain ⟨hg1, h⟩ := grd_some h
  refine va_iald hx hb hK.1 hP 2 0 rfl rfl hg1 dX2_move_10 ?_
  obtain ⟨hg2, h⟩ := grd_some h
  refine va_iast hx hb hK.1 hP hD hS 2 0 rfl rfl hg2 dX2_move_11 (fun H locs hP hD hS => ?_)
  have hP : va_P G.1 vwCl (wdX2_move G a_t a_t_answered a_t_kinds a_t_numbers a_t_values N_t t_most t_length t_answered (upd t_kinds (ix x2) (t_kinds (ix x1))) t_numbers t_values) H := hP
  have hD : va_D A (wdX2_move G a_t a_t_answered a_t_kinds a_t_numbers a_t_values N_t t_most t_length t_answered (upd t_kinds (ix x2) (t_kinds (ix x1))) t_numbers t_values) := hD
  refine lv_aload_n hx hb dX2_move_12 rfl (lv_at hl 0 rfl) ?_
  refine va_get (D := G.1) (ci := 2) (v := .ref a_t_numbers) (C := RX2) (T := TX2) (N := 6) hx hb hB iX2 hown hK.1 hP 0 rfl rfl 2 (by decide) (hB _ kw237) (fun _ h9 => h9) rfl dX2_move_13 ?_
  refine lv_iload_n hx hb dX2_move_16 rfl (lv_at hl 2 rfl) ?_
  refine lv_aload_n hx hb dX2_move_17 rfl (lv_at hl 0 rfl) ?_
  refine va_get (D := G.1) (ci := 2) (v := .ref a_t_numbers) (C := RX2) (T := TX2) (N := 6) hx hb hB iX2 hown hK.1 hP 0 rfl rfl 2 (by decide) (hB _ kw237) (fun _ h9 => h9) rfl dX2_move_18 ?_
  refine lv_iload_n hx hb dX2_move_21 rfl (lv_at hl 1 rfl) ?_
  obtain ⟨hg3, h⟩ := grd_some h
  refine va_iald hx hb hK.1 hP 3 0 rfl rfl hg3 dX2_move_22 ?_
  obtain ⟨hg4, h⟩ := grd_some h
  refine va_iast hx hb hK.1 hP hD hS 3 0 rfl rfl hg4 dX2_move_23 (fun H locs hP hD hS => ?_)
  have hP : va_P G.1 vwCl (wdX2_move G a_t a_t_answered a_t_kinds a_t_numbers a_t_values N_t t_most t_length t_answered (upd t_kinds (ix x2) (t_kinds (ix x1))) (upd t_numbers (ix x2) (t_numbers (ix x1))) t_values) H := hP
  have hD : va_D A (wdX2_move G a_t a_t_answered a_t_kinds a_t_numbers a_t_values N_t t_most t_length t_answered (upd t_kinds (ix x2) (t_kinds (ix x1))) (upd t_numbers (ix x2) (t_numbers (ix x1))) t_values) := hD
  refine lv_aload_n hx hb dX2_move_24 rfl (lv_at hl 0 rfl) ?_
  refine va_get (D := G.1) (ci := 2) (v := .ref a_t_values) (C := RX2) (T := TX2) (N := 6) hx hb hB iX2 hown hK.1 hP 0 rfl rfl 3 (by decide) (hB _ kw238) (fun _ h9 => h9) rfl dX2_move_25 ?_
  refine lv_iload_n hx hb dX2_move_28 rfl (lv_at hl 2 rfl) ?_
  refine lv_aload_n hx hb dX2_move_29 rfl (lv_at hl 0 rfl) ?_
  refine va_get (D := G.1) (ci := 2) (v := .ref a_t_values) (C := RX2) (T := TX2) (N := 6) hx hb hB iX2 hown hK.1 hP 0 rfl rfl 3 (by decide) (hB _ kw238) (fun _ h9 => h9) rfl dX2_move_30 ?_
  refine lv_iload_n hx hb dX2_move_33 rfl (lv_at hl 1 rfl) ?_
  obtain ⟨hg5, h⟩ := grd_some h
  refine va_iald hx hb hK.1 hP 4 0 rfl rfl hg5 dX2_move_34 ?_
  obtain ⟨hg6, h⟩ := grd_some h
  refine va_iast hx hb hK.1 hP hD hS 4 0 rfl rfl hg6 dX2_move_35 (fun H locs hP hD hS => ?_)
  have hP : va_P G.1 vwCl (wdX2_move G a_t a_t_answered a_t_kinds a_t_numbers a_t_values N_t t_most t_length t_answered (upd t_kinds (ix x2) (t_kinds (ix x1))) (upd t_numbers (ix x2) (t_numbers (ix x1))) (upd t_values (ix x2) (t_values (ix x1)))) H := hP
  have hD : va_D A (wdX2_move G a_t a_t_answered a_t_kinds a_t_numbers a_t_values N_t t_most t_length t_answered (upd t_kinds (ix x2) (t_kinds (ix x1))) (upd t_numbers (ix x2) (t_numbers (ix x1))) (upd t_values (ix x2) (t_values (ix x1)))) := hD
  refine lv_aload_n hx hb dX2_move_36 rfl (lv_at hl 0 rfl) ?_
  refine va_get (D := G.1) (ci := 2) (v := .ref a_t_answered) (C := RX2) (T := TX2) (N := 6) hx hb hB iX2 hown hK.1 hP 0 rfl rfl 4 (by decide) (hB _ kw239) (fun _ h9 => h9) rfl dX2_move_37 ?_
  refine lv_iload_n hx hb dX2_move_40 rfl (lv_at hl 2 rfl) ?_
  refine lv_aload_n hx hb dX2_move_41 rfl (lv_at hl 0 rfl) ?_
  refine va_get (D := G.1) (ci := 2) (v := .ref a_t_answered) (C := RX2) (T := TX2) (N := 6) hx hb hB iX2 hown hK.1 hP 0 rfl rfl 4 (by decide) (hB _ kw239) (fun _ h9 => h9) rfl dX2_move_42 ?_
  refine lv_iload_n hx hb dX2_move_45 rfl (lv_at hl 1 rfl) ?_
  obtain ⟨hg7, h⟩ := grd_some h
  refine va_zald hx hb hK.1 hP 1 1 rfl rfl hg7 dX2_move_46 ?_
  obtain ⟨hg8, h⟩ := grd_some h
  obtain ⟨hg9, h⟩ := grd_some h
  refine va_zast hx hb hK.1 hP hD hS 1 1 rfl rfl hg8 dX2_move_47 (fun H locs hP hD hS => ?_)
  rw [isB_vp hg9] at hP hD
  have hP : va_P G.1 vwCl (wdX2_move G a_t a_t_answered a_t_kinds a_t_numbers a_t_values N_t t_most t_length (upd t_answered (ix x2) (t_answered (ix x1))) (upd t_kinds (ix x2) (t_kinds (ix x1))) (upd t_numbers (ix x2) (t_numbers (ix x1))) (upd t_values (ix x2) (t_values (ix x1)))) H := hP
  have hD : va_D A (wdX2_move G a_t a_t_answered a_t_kinds a_t_numbers a_t_values N_t t_most t_length (upd t_answered (ix x2) (t_answered (ix x1))) (upd t_kinds (ix x2) (t_kinds (ix x1))) (upd t_numbers (ix x2) (t_numbers (ix x1))) (upd t_values (ix x2) (t_values (ix x1)))) := hD
  obtain rfl := Option.some.inj h
  exact W.vret hx hb hr (fun t ht hW => ⟨⟨(), rfl, trivial, by rw [ht]; exact hP, hD⟩, hS.F ht⟩) hS.2.2 dX2_move_48
set_option maxHeartbeats 4000000 in
set_option maxRecDepth 100000 in
theorem mX2_move (l : Launch) (G : GT) (a_t : Nat) (a_t_answered : Nat) (a_t_kinds : Nat) (a_t_numbers : Nat) (a_t_values : Nat) (N_t : Nat) (t_most : Int32) (t_length : Int32) (x1 : Int32) (x2 : Int32) (t_answered : Nat → Int32) (t_kinds : Nat → Int32) (t_numbers : Nat → Int32) (t_values : Nat → Int32) (sz : Nat) (out : (Nat → Int32) × (Nat → Int32) × (Nat → Int32) × (Nat → Int32)) (h : fX2_move N_t x1 x2 t_answered t_kinds t_numbers t_values = some out) : Met l yX2_move wsX2_move rmX2_move (gPc G [.ref a_t, .int x1, .int x2] sz (wdX2_move G a_t a_t_answered a_t_kinds a_t_numbers a_t_values N_t t_most t_length t_answered t_kinds t_numbers t_values)) (gQv G (va_A (wdX2_move G a_t a_t_answered a_t_kinds a_t_numbers a_t_values N_t t_most t_length t_answered t_kinds t_numbers t_values) sz) (wdX2_move G a_t a_t_answered a_t_kinds a_t_numbers a_t_values N_t t_most t_length out.1 out.2.1 out.2.2.1 out.2.2.2)) 0 0 (va_A (wdX2_move G a_t a_t_answered a_t_kinds a_t_numbers a_t_values N_t t_most t_length t_answered t_kinds t_numbers t_values) sz) := by
  refine Met.ofW (cc := cX2_move) (maxL := 3) (ret := none) (by decide) rfl ?_
  intro p e s m args below meth c s₁ B hml hv
  obtain ⟨rfl, hsz, hP, hK, hD0⟩ := hv
  have hts := atoms_spec (ws := wsX2_move) B.pre
  have hown : s.vm.findClass "OutStation$EventRow" = some m.cls := findClass_of_methodNamed B.named
  subst hsz
  have hD := hD0.self (sz := s.heap.size)
  generalize hAe : va_A (wdX2_move G a_t a_t_answered a_t_kinds a_t_numbers a_t_values N_t t_most t_length t_answered t_kinds t_numbers t_values) s.heap.size = A at hD ⊢
  have hA : ∀ q : Nat, s.heap.size ≤ q → A q := fun q h => by rw [← hAe]; exact Or.inr h
  have hS : va_S A s.heap s.heap [] := va_S.rf
  have hl := lv_entry ([.ref a_t, .int x1, .int x2]) (n := 3) (Nat.le_of_ble_eq_true rfl)
  rw [lg_entry_eq]
  generalize (lg_sl ([.ref a_t, .int x1, .int x2]) ++ List.replicate (3 - (lg_sl ([.ref a_t, .int x1, .int x2])).length) Slot.unset).toArray = ls at hl ⊢
  exact wX2_move_E ⟨B.exec, B.bytes, B.returns, hml, hown, hts, B.notSynchronized, hA, hK⟩ x1 x2 t_answered t_kinds t_numbers t_values _ _ _ h hP hD hS hl
/-! ### OutStation$EventRow.removeOldest ()V -/
abbrev wdX2_removeOldest (G : GT) (a_t : Nat) (a_t_answered : Nat) (a_t_kinds : Nat) (a_t_numbers : Nat) (a_t_values : Nat) (N_t : Nat) (t_most : Int32) (t_length : Int32) (t_answered : Nat → Int32) (t_kinds : Nat → Int32) (t_numbers : Nat → Int32) (t_values : Nat → Int32) : va_W := [(a_t, .inr (2, [.int t_most, .ref a_t_kinds, .ref a_t_numbers, .ref a_t_values, .ref a_t_answered, .int t_length])), (a_t_answered, .inl (G.2.2.1, N_t, .inl t_answered)), (a_t_kinds, .inl (G.2.1, N_t, .inl t_kinds)), (a_t_numbers, .inl (G.2.1, N_t, .inl t_numbers)), (a_t_values, .inl (G.2.1, N_t, .inl t_values))]
abbrev wsX2_removeOldest : List Cond := .code yX2_removeOldest cX2_removeOldest 2 none :: BG
abbrev rmX2_removeOldest : Room := { frames := 1, cells := 0, slots := 0, locals := 22 }
noncomputable def fX2_removeOldest_L2 (N_t : Nat) (n : Nat) : Int32 → Int32 → (Nat → Int32) → (Nat → Int32) → (Nat → Int32) → (Nat → Int32) → Option (Int32 × (Nat → Int32) × (Nat → Int32) × (Nat → Int32) × (Nat → Int32)) := Nat.rec (motive := fun _ => Int32 → Int32 → (Nat → Int32) → (Nat → Int32) → (Nat → Int32) → (Nat → Int32) → Option (Int32 × (Nat → Int32) × (Nat → Int32) × (Nat → Int32) × (Nat → Int32))) (fun _ _ _ _ _ _ => none) (fun _ k_L2 x1 t_length t_answered t_kinds t_numbers t_values => brc (t_length ≤ x1) (some ((if (0 : Int32) < (t_length - (1 : Int32)) then (t_length - (1 : Int32)) else (0 : Int32)), t_answered, t_kinds, t_numbers, t_values)) (bnd (fX2_move N_t x1 (x1 - (1 : Int32)) t_answered t_kinds t_numbers t_values) (fun u1 => k_L2 (x1 + (1 : Int32)) t_length u1.1 u1.2.1 u1.2.2.1 u1.2.2.2))) n
set_option maxHeartbeats 4000000 in
set_option maxRecDepth 100000 in
theorem wX2_removeOldest_L2 {p : Program} {l : Launch} {e : Env} {s : State} {m : MethodId} {args : Array Value} {below : List Frame} {meth : Method} {c : Code} {G : GT} {A : Nat → Prop} (C : cxt p s m args meth c cX2_removeOldest none 2 "OutStation$EventRow" wsX2_removeOldest G A) {a_t : Nat} {a_t_answered : Nat} {a_t_kinds : Nat} {a_t_numbers : Nat} {a_t_values : Nat} {N_t : Nat} {t_most : Int32} {out : Int32 × (Nat → Int32) × (Nat → Int32) × (Nat → Int32) × (Nat → Int32)} : ∀ (n : Nat) (x1 : Int32) (t_length : Int32) (t_answered : Nat → Int32) (t_kinds : Nat → Int32) (t_numbers : Nat → Int32) (t_values : Nat → Int32) (H : Heap) (locs : List Loc) (ls : Array Slot), fX2_removeOldest_L2 N_t n x1 t_length t_answered t_kinds t_numbers t_values = some out → va_P G.1 vwCl (wdX2_removeOldest G a_t a_t_answered a_t_kinds a_t_numbers a_t_values N_t t_most t_length t_answered t_kinds t_numbers t_values) H → va_D A (wdX2_removeOldest G a_t a_t_answered a_t_kinds a_t_numbers a_t_values N_t t_most t_length t_answered t_kinds t_numbers t_values) → va_S A s.heap H locs → lv_has ls 2 [(0, .ref a_t), (1, .int x1)] → W p l e rmX2_removeOldest s m args below meth c H locs 0 0 (MQ below (gQv G A (wdX2_removeOldest G a_t a_t_answered a_t_kinds a_t_numbers a_t_values N_t t_most out.1 out.2.1 out.2.2.1 out.2.2.2.1 out.2.2.2.2)) args s 0 0 A) (F0 m 2 ls []) := by
  obtain ⟨hx, hb, hr, hml, hown, hts, hlocks, hA, hK⟩ := id C
  have hB : ∀ w ∈ BG, w.before args s = true := fun w h => hts w (List.mem_cons_of_mem _ h)
  intro n
  induction n with
  | zero =>
    intro x1 t_length t_answered t_kinds t_numbers t_values H locs ls h hP hD hS hl
    cases h
  | succ n ih =>
    intro x1 t_length t_answered t_kinds t_numbers t_values H locs ls h hP hD hS hl
    replace h : brc (t_length ≤ x1) (some ((if (0 : Int32) < (t_length - (1 : Int32)) then (t_length - (1 : Int32)) else (0 : Int32)), t_answered, t_kinds, t_numbers, t_values)) (bnd (fX2_move N_t x1 (x1 - (1 : Int32)) t_answered t_kinds t_numbers t_values) (fun u1 => (fX2_removeOldest_L2 N_t n) (x1 + (1 : Int32)) t_length u1.1 u1.2.1 u1.2.2.1 u1.2.2.2)) = some out := h
    refine lv_iload_n hx hb dX2_removeOldest_2 rfl (lv_at hl 1 rfl) ?_
    refine lv_aload_n hx hb dX2_removeOldest_3 rfl (lv_at hl 0 rfl) ?_
    refine va_get (D := G.1) (ci := 2) (v := .int t_length) (C := RX2) (T := TX2) (N := 6) hx hb hB iX2 hown hK.1 hP 0 rfl rfl 5 (by decide) (hB _ kw240) (fun _ h9 => h9) rfl dX2_removeOldest_4 ?_
    refine lv_icmp_ge (tgt := 24) hx hb dX2_removeOldest_7 (by decide) (fun hc7 => ?_) (fun hc7 => ?_)
    · have h := brc_tt h hc7
      refine lv_aload_n hx hb dX2_removeOldest_24 rfl (lv_at hl 0 rfl) ?_
      refine lv_iconst (v := (0 : Int32)) hx hb dX2_removeOldest_25 (by decide) ?_
      refine lv_aload_n hx hb dX2_removeOldest_26 rfl (lv_at hl 0 rfl) ?_
      refine va_get (D := G.1) (ci := 2) (v := .int t_length) (C := RX2) (T := TX2) (N := 6) hx hb hB iX2 hown hK.1 hP 0 rfl rfl 5 (by decide) (hB _ kw240) (fun _ h9 => h9) rfl dX2_removeOldest_27 ?_
      refine lv_iconst (v := (1 : Int32)) hx hb dX2_removeOldest_30 (by decide) ?_
      refine lv_isub hx hb dX2_removeOldest_31 ?_
      refine va_mmax hx hb (hml.trans hl.1.symm) hown (hB _ kw787) (hB _ kw222) (hB _ kw54) (hB _ kw223) (Nat.le_of_ble_eq_true rfl) (Nat.le_of_ble_eq_true rfl) (Nat.le_of_ble_eq_true rfl) (Nat.le_of_ble_eq_true rfl) dX2_removeOldest_32 ?_
      refine va_put (D := G.1) (ci := 2) (v := .int (if (0 : Int32) < (t_length - (1 : Int32)) then (t_length - (1 : Int32)) else (0 : Int32))) (ty := .int) (C := RX2) (T := TX2) (N := 6) hx hb hB iX2 tyX2 tyX2_ok nmX2 hown hK.1 hP hD hS 0 rfl rfl 5 (by decide) (hB _ kw240) (fun _ h9 => h9) rfl (by decide +kernel) rfl rfl (Nat.le_of_ble_eq_true rfl) dX2_removeOldest_35 (fun H locs hP hD hS => ?_)
      have hP : va_P G.1 vwCl (wdX2_removeOldest G a_t a_t_answered a_t_kinds a_t_numbers a_t_values N_t t_most (if (0 : Int32) < (t_length - (1 : Int32)) then (t_length - (1 : Int32)) else (0 : Int32)) t_answered t_kinds t_numbers t_values) H := hP
      have hD : va_D A (wdX2_removeOldest G a_t a_t_answered a_t_kinds a_t_numbers a_t_values N_t t_most (if (0 : Int32) < (t_length - (1 : Int32)) then (t_length - (1 : Int32)) else (0 : Int32)) t_answered t_kinds t_numbers t_values) := hD
      obtain rfl := Option.some.inj h
      exact W.vret hx hb hr (fun t ht hW => ⟨⟨(), rfl, trivial, by rw [ht]; exact hP, hD⟩, hS.F ht⟩) hS.2.2 dX2_removeOldest_38
    · have h := brc_ff h hc7
      refine lv_aload_n hx hb dX2_removeOldest_10 rfl (lv_at hl 0 rfl) ?_
      refine lv_iload_n hx hb dX2_removeOldest_11 rfl (lv_at hl 1 rfl) ?_
      refine lv_iload_n hx hb dX2_removeOldest_12 rfl (lv_at hl 1 rfl) ?_
      refine lv_iconst (v := (1 : Int32)) hx hb dX2_removeOldest_13 (by decide) ?_
      refine lv_isub hx hb dX2_removeOldest_14 ?_
      obtain ⟨u1, hu1, h⟩ := bnd_some h
      have hPc := hP.sub (ws' := (wdX2_move G a_t a_t_answered a_t_kinds a_t_numbers a_t_values N_t t_most t_length t_answered t_kinds t_numbers t_values)) [0, 1, 2, 3, 4] rfl
      have hDc := hD.sub (ws' := (wdX2_move G a_t a_t_answered a_t_kinds a_t_numbers a_t_values N_t t_most t_length t_answered t_kinds t_numbers t_values)) [0, 1, 2, 3, 4] (by decide) rfl
      refine g_v (wc := (wdX2_move G a_t a_t_answered a_t_kinds a_t_numbers a_t_values N_t t_most t_length t_answered t_kinds t_numbers t_values)) (w1 := (wdX2_move G a_t a_t_answered a_t_kinds a_t_numbers a_t_values N_t t_most t_length u1.1 u1.2.1 u1.2.2.1 u1.2.2.2)) (w2 := (wdX2_removeOldest G a_t a_t_answered a_t_kinds a_t_numbers a_t_values N_t t_most t_length u1.1 u1.2.1 u1.2.2.1 u1.2.2.2)) (va_runV (As := [.int x1, .int (x1 - (1 : Int32))]) (rest := []) ⟨hx, hb, hml, hown, hts⟩ (mX2_move l G a_t a_t_answered a_t_kinds a_t_numbers a_t_values N_t t_most t_length x1 (x1 - (1 : Int32)) t_answered t_kinds t_numbers t_values H.size u1 hu1) ⟨(callB_of 2 hts (bgIn kw570) rfl rfl rfl (hB _ kw55) (hB _ kw567) hdX2_move ⟨(Nat.le_of_ble_eq_true rfl), (Nat.le_of_ble_eq_true rfl)⟩), hB _ kw569, hB _ kw16⟩ (gPreV (ci := 2) (qr := 0) hK hPc hDc rfl rfl rfl) rfl rfl hl.1 rfl (lv_room (Nat.le_of_ble_eq_true rfl)) dX2_removeOldest_15 ⟨(Nat.le_of_ble_eq_true rfl), (Nat.le_of_ble_eq_true rfl)⟩) hP hD hS hA [0, 1, 2, 3, 4] rfl rfl [.inr 0, .inr 1, .inr 2, .inr 3, .inr 4] rfl rfl (fun H locs hP hD hS => ?_)
      refine lv_iinc (v := (x1 + (1 : Int32))) (lv' := [(1, .int (x1 + (1 : Int32))), (0, .ref a_t)]) hx hb dX2_removeOldest_18 hl (k := 1) rfl rfl (by decide) rfl (fun ls hl => ?_)
      refine lv_goto (tgt := 2) hx hb dX2_removeOldest_21 (by decide) ?_
      exact ih (x1 + (1 : Int32)) t_length u1.1 u1.2.1 u1.2.2.1 u1.2.2.2 _ _ _ h hP hD hS (lv_sub hl [1, 0] rfl)
noncomputable def fX2_removeOldest (N_t : Nat) (t_length : Int32) (t_answered : Nat → Int32) (t_kinds : Nat → Int32) (t_numbers : Nat → Int32) (t_values : Nat → Int32) : Option (Int32 × (Nat → Int32) × (Nat → Int32) × (Nat → Int32) × (Nat → Int32)) := fX2_removeOldest_L2 N_t FU (1 : Int32) t_length t_answered t_kinds t_numbers t_values
set_option maxHeartbeats 4000000 in
set_option maxRecDepth 100000 in
theorem wX2_removeOldest_E {p : Program} {l : Launch} {e : Env} {s : State} {m : MethodId} {args : Array Value} {below : List Frame} {meth : Method} {c : Code} {G : GT} {A : Nat → Prop} (C : cxt p s m args meth c cX2_removeOldest none 2 "OutStation$EventRow" wsX2_removeOldest G A) {a_t : Nat} {a_t_answered : Nat} {a_t_kinds : Nat} {a_t_numbers : Nat} {a_t_values : Nat} {N_t : Nat} {t_most : Int32} {out : Int32 × (Nat → Int32) × (Nat → Int32) × (Nat → Int32) × (Nat → Int32)} : ∀ (t_length : Int32) (t_answered : Nat → Int32) (t_kinds : Nat → Int32) (t_numbers : Nat → Int32) (t_values : Nat → Int32) (H : Heap) (locs : List Loc) (ls : Array Slot), fX2_removeOldest N_t t_length t_answered t_kinds t_numbers t_values = some out → va_P G.1 vwCl (wdX2_removeOldest G a_t a_t_answered a_t_kinds a_t_numbers a_t_values N_t t_most t_length t_answered t_kinds t_numbers t_values) H → va_D A (wdX2_removeOldest G a_t a_t_answered a_t_kinds a_t_numbers a_t_values N_t t_most t_length t_answered t_kinds t_numbers t_values) → va_S A s.heap H locs → lv_has ls 2 [(0, .ref a_t)] → W p l e rmX2_removeOldest s m args below meth c H locs 0 0 (MQ below (gQv G A (wdX2_removeOldest G a_t a_t_answered a_t_kinds a_t_numbers a_t_values N_t t_most out.1 out.2.1 out.2.2.1 out.2.2.2.1 out.2.2.2.2)) args s 0 0 A) (F0 m 0 ls []) := by
  obtain ⟨hx, hb, hr, hml, hown, hts, hlocks, hA, hK⟩ := id C
  have hB : ∀ w ∈ BG, w.before args s = true := fun w h => hts w (List.mem_cons_of_mem _ h)
  intro t_length t_answered t_kinds t_numbers t_values H locs ls h hP hD hS hl
  unfold fX2_removeOldest at h
  refine lv_iconst (v := (1 : Int32)) hx hb dX2_removeOldest_0 (by decide) ?_
  refine lv_istore_n (lv' := [(1, .int (1 : Int32)), (0, .ref a_t)]) hx hb dX2_removeOldest_1 rfl hl (by decide) rfl (fun ls hl => ?_)
  exact wX2_removeOldest_L2 C FU (1 : Int32) t_length t_answered t_kinds t_numbers t_values _ _ _ h hP hD hS (lv_sub hl [1, 0] rfl)
set_option maxHeartbeats 4000000 in
set_option maxRecDepth 100000 in
theorem mX2_removeOldest (l : Launch) (G : GT) (a_t : Nat) (a_t_answered : Nat) (a_t_kinds : Nat) (a_t_numbers : Nat) (a_t_values : Nat) (N_t : Nat) (t_most : Int32) (t_length : Int32) (t_answered : Nat → Int32) (t_kinds : Nat → Int32) (t_numbers : Nat → Int32) (t_values : Nat → Int32) (sz : Nat) (out : Int32 × (Nat → Int32) × (Nat → Int32) × (Nat → Int32) × (Nat → Int32)) (h : fX2_removeOldest N_t t_length t_answered t_kinds t_numbers t_values = some out) : Met l yX2_removeOldest wsX2_removeOldest rmX2_removeOldest (gPc G [.ref a_t] sz (wdX2_removeOldest G a_t a_t_answered a_t_kinds a_t_numbers a_t_values N_t t_most t_length t_answered t_kinds t_numbers t_values)) (gQv G (va_A (wdX2_removeOldest G a_t a_t_answered a_t_kinds a_t_numbers a_t_values N_t t_most t_length t_answered t_kinds t_numbers t_values) sz) (wdX2_removeOldest G a_t a_t_answered a_t_kinds a_t_numbers a_t_values N_t t_most out.1 out.2.1 out.2.2.1 out.2.2.2.1 out.2.2.2.2)) 0 0 (va_A (wdX2_removeOldest G a_t a_t_answered a_t_kinds a_t_numbers a_t_values N_t t_most t_length t_answered t_kinds t_numbers t_values) sz) := by
  refine Met.ofW (cc := cX2_removeOldest) (maxL := 2) (ret := none) (by decide) rfl ?_
  intro p e s m args below meth c s₁ B hml hv
  obtain ⟨rfl, hsz, hP, hK, hD0⟩ := hv
  have hts := atoms_spec (ws := wsX2_removeOldest) B.pre
  have hown : s.vm.findClass "OutStation$EventRow" = some m.cls := findClass_of_methodNamed B.named
  subst hsz
  have hD := hD0.self (sz := s.heap.size)
  generalize hAe : va_A (wdX2_removeOldest G a_t a_t_answered a_t_kinds a_t_numbers a_t_values N_t t_most t_length t_answered t_kinds t_numbers t_values) s.heap.size = A at hD ⊢
  have hA : ∀ q : Nat, s.heap.size ≤ q → A q := fun q h => by rw [← hAe]; exact Or.inr h
  have hS : va_S A s.heap s.heap [] := va_S.rf
  have hl := lv_entry ([.ref a_t]) (n := 2) (Nat.le_of_ble_eq_true rfl)
  rw [lg_entry_eq]
  generalize (lg_sl ([.ref a_t]) ++ List.replicate (2 - (lg_sl ([.ref a_t])).length) Slot.unset).toArray = ls at hl ⊢
  exact wX2_removeOldest_E ⟨B.exec, B.bytes, B.returns, hml, hown, hts, B.notSynchronized, hA, hK⟩ t_length t_answered t_kinds t_numbers t_values _ _ _ h hP hD hS hl
/-! ### OutStation$EventRow.removeAnswered ()V -/
abbrev wdX2_removeAnswered (G : GT) (a_t : Nat) (a_t_answered : Nat) (a_t_kinds : Nat) (a_t_numbers : Nat) (a_t_values : Nat) (N_t : Nat) (t_most : Int32) (t_length : Int32) (t_answered : Nat → Int32) (t_kinds : Nat → Int32) (t_numbers : Nat → Int32) (t_values : Nat → Int32) : va_W := [(a_t, .inr (2, [.int t_most, .ref a_t_kinds, .ref a_t_numbers, .ref a_t_values, .ref a_t_answered, .int t_length])), (a_t_answered, .inl (G.2.2.1, N_t, .inl t_answered)), (a_t_kinds, .inl (G.2.1, N_t, .inl t_kinds)), (a_t_numbers, .inl (G.2.1, N_t, .inl t_numbers)), (a_t_values, .inl (G.2.1, N_t, .inl t_values))]
abbrev wsX2_removeAnswered : List Cond := .code yX2_removeAnswered cX2_removeAnswered 3 none :: BG
abbrev rmX2_removeAnswered : Room := { frames := 1, cells := 0, slots := 0, locals := 22 }
noncomputable def fX2_removeAnswered_L30 (N_t : Nat) (k_L4 : Int32 → Int32 → Int32 → (Nat → Int32) → (Nat → Int32) → (Nat → Int32) → (Nat → Int32) → Option (Int32 × (Nat → Int32) × (Nat → Int32) × (Nat → Int32) × (Nat → Int32))) (x1 : Int32) (x2 : Int32) (t_length : Int32) (t_answered : Nat → Int32) (t_kinds : Nat → Int32) (t_numbers : Nat → Int32) (t_values : Nat → Int32) : Option (Int32 × (Nat → Int32) × (Nat → Int32) × (Nat → Int32) × (Nat → Int32)) := k_L4 x1 (x2 + (1 : Int32)) t_length t_answered t_kinds t_numbers t_values
set_option maxHeartbeats 4000000 in
set_option maxRecDepth 100000 in
theorem wX2_removeAnswered_L30 {p : Program} {l : Launch} {e : Env} {s : State} {m : MethodId} {args : Array Value} {below : List Frame} {meth : Method} {c : Code} {G : GT} {A : Nat → Prop} (C : cxt p s m args meth c cX2_removeAnswered none 3 "OutStation$EventRow" wsX2_removeAnswered G A) {a_t : Nat} {a_t_answered : Nat} {a_t_kinds : Nat} {a_t_numbers : Nat} {a_t_values : Nat} {N_t : Nat} {t_most : Int32} {k_L4 : Int32 → Int32 → Int32 → (Nat → Int32) → (Nat → Int32) → (Nat → Int32) → (Nat → Int32) → Option (Int32 × (Nat → Int32) × (Nat → Int32) × (Nat → Int32) × (Nat → Int32))} {out : Int32 × (Nat → Int32) × (Nat → Int32) × (Nat → Int32) × (Nat → Int32)} (hk_L4 : ∀ (x1 : Int32) (x2 : Int32) (t_length : Int32) (t_answered : Nat → Int32) (t_kinds : Nat → Int32) (t_numbers : Nat → Int32) (t_values : Nat → Int32) (H : Heap) (locs : List Loc) (ls : Array Slot), k_L4 x1 x2 t_length t_answered t_kinds t_numbers t_values = some out → va_P G.1 vwCl (wdX2_removeAnswered G a_t a_t_answered a_t_kinds a_t_numbers a_t_values N_t t_most t_length t_answered t_kinds t_numbers t_values) H → va_D A (wdX2_removeAnswered G a_t a_t_answered a_t_kinds a_t_numbers a_t_values N_t t_most t_length t_answered t_kinds t_numbers t_values) → va_S A s.heap H locs → lv_has ls 3 [(0, .ref a_t), (1, .int x1), (2, .int x2)] → W p l e rmX2_removeAnswered s m args below meth c H locs 0 0 (MQ below (gQv G A (wdX2_removeAnswered G a_t a_t_answered a_t_kinds a_t_numbers a_t_values N_t t_most out.1 out.2.1 out.2.2.1 out.2.2.2.1 out.2.2.2.2)) args s 0 0 A) (F0 m 4 ls [])) : ∀ (x1 : Int32) (x2 : Int32) (t_length : Int32) (t_answered : Nat → Int32) (t_kinds : Nat → Int32) (t_numbers : Nat → Int32) (t_values : Nat → Int32) (H : Heap) (locs : List Loc) (ls : Array Slot), fX2_removeAnswered_L30 N_t k_L4 x1 x2 t_length t_answered t_kinds t_numbers t_values = some out → va_P G.1 vwCl (wdX2_removeAnswered G a_t a_t_answered a_t_kinds a_t_numbers a_t_values N_t t_most t_length t_answered t_kinds t_numbers t_values) H → va_D A (wdX2_removeAnswered G a_t a_t_answered a_t_kinds a_t_numbers a_t_values N_t t_most t_length t_answered t_kinds t_numbers t_values) → va_S A s.heap H locs → lv_has ls 3 [(0, .ref a_t), (1, .int x1), (2, .int x2)] → W p l e rmX2_removeAnswered s m args below meth c H locs 0 0 (MQ below (gQv G A (wdX2_removeAnswered G a_t a_t_answered a_t_kinds a_t_numbers a_t_values N_t t_most out.1 out.2.1 out.2.2.1 out.2.2.2.1 out.2.2.2.2)) args s 0 0 A) (F0 m 30 ls []) := by
  obtain ⟨hx, hb, hr, hml, hown, hts, hlocks, hA, hK⟩ := id C
  have hB : ∀ w ∈ BG, w.before args s = true := fun w h => hts w (List.mem_cons_of_mem _ h)
  intro x1 x2 t_length t_answered t_kinds t_numbers t_values H locs ls h hP hD hS hl
  unfold fX2_removeAnswered_L30 at h
  refine lv_iinc (v := (x2 + (1 : Int32))) (lv' := [(2, .int (x2 + (1 : Int32))), (0, .ref a_t), (1, .int x1)]) hx hb dX2_removeAnswered_30 hl (k := 2) rfl rfl (by decide) rfl (fun ls hl => ?_)
  refine lv_goto (tgt := 4) hx hb dX2_removeAnswered_33 (by decide) ?_
  exact hk_L4 x1 (x2 + (1 : Int32)) t_length t_answered t_kinds t_numbers t_values _ _ _ h hP hD hS (lv_sub hl [1, 2, 0] rfl)
noncomputable def fX2_removeAnswered_L4 (N_t : Nat) (n : Nat) : Int32 → Int32 → Int32 → (Nat → Int32) → (Nat → Int32) → (Nat → Int32) → (Nat → Int32) → Option (Int32 × (Nat → Int32) × (Nat → Int32) × (Nat → Int32) × (Nat → Int32)) := Nat.rec (motive := fun _ => Int32 → Int32 → Int32 → (Nat → Int32) → (Nat → Int32) → (Nat → Int32) → (Nat → Int32) → Option (Int32 × (Nat → Int32) × (Nat → Int32) × (Nat → Int32) × (Nat → Int32))) (fun _ _ _ _ _ _ _ => none) (fun _ k_L4 x1 x2 t_length t_answered t_kinds t_numbers t_values => brc (t_length ≤ x2) (some (x1, t_answered, t_kinds, t_numbers, t_values)) (grd (vp_in x2 N_t) (brc ((t_answered (ix x2)) = 0) (bnd (fX2_move N_t x2 x1 t_answered t_kinds t_numbers t_values) (fun u2 => fX2_removeAnswered_L30 N_t k_L4 (x1 + (1 : Int32)) x2 t_length u2.1 u2.2.1 u2.2.2.1 u2.2.2.2)) (fX2_removeAnswered_L30 N_t k_L4 x1 x2 t_length t_answered t_kinds t_numbers t_values)))) n
set_option maxHeartbeats 4000000 in
set_option maxRecDepth 100000 in
theorem wX2_removeAnswered_L4 {p : Program} {l : Launch} {e : Env} {s : State} {m : MethodId} {args : Array Value} {below : List Frame} {meth : Method} {c : Code} {G : GT} {A : Nat → Prop} (C : cxt p s m args meth c cX2_removeAnswered none 3 "OutStation$EventRow" wsX2_removeAnswered G A) {a_t : Nat} {a_t_answered : Nat} {a_t_kinds : Nat} {a_t_numbers : Nat} {a_t_values : Nat} {N_t : Nat} {t_most : Int32} {out : Int32 × (Nat → Int32) × (Nat → Int32) × (Nat → Int32) × (Nat → Int32)} : ∀ (n : Nat) (x1 : Int32) (x2 : Int32) (t_length : Int32) (t_answered : Nat → Int32) (t_kinds : Nat → Int32) (t_numbers : Nat → Int32) (t_values : Nat → Int32) (H : Heap) (locs : List Loc) (ls : Array Slot), fX2_removeAnswered_L4 N_t n x1 x2 t_length t_answered t_kinds t_numbers t_values = some out → va_P G.1 vwCl (wdX2_removeAnswered G a_t a_t_answered a_t_kinds a_t_numbers a_t_values N_t t_most t_length t_answered t_kinds t_numbers t_values) H → va_D A (wdX2_removeAnswered G a_t a_t_answered a_t_kinds a_t_numbers a_t_values N_t t_most t_length t_answered t_kinds t_numbers t_values) → va_S A s.heap H locs → lv_has ls 3 [(0, .ref a_t), (1, .int x1), (2, .int x2)] → W p l e rmX2_removeAnswered s m args below meth c H locs 0 0 (MQ below (gQv G A (wdX2_removeAnswered G a_t a_t_answered a_t_kinds a_t_numbers a_t_values N_t t_most out.1 out.2.1 out.2.2.1 out.2.2.2.1 out.2.2.2.2)) args s 0 0 A) (F0 m 4 ls []) := by
  obtain ⟨hx, hb, hr, hml, hown, hts, hlocks, hA, hK⟩ := id C
  have hB : ∀ w ∈ BG, w.before args s = true := fun w h => hts w (List.mem_cons_of_mem _ h)
  intro n
  induction n with
  | zero =>
    intro x1 x2 t_length t_answered t_kinds t_numbers t_values H locs ls h hP hD hS hl
    cases h
  | succ n ih =>
    intro x1 x2 t_length t_answered t_kinds t_numbers t_values H locs ls h hP hD hS hl
    replace h : brc (t_length ≤ x2) (some (x1, t_answered, t_kinds, t_numbers, t_values)) (grd (vp_in x2 N_t) (brc ((t_answered (ix x2)) = 0) (bnd (fX2_move N_t x2 x1 t_answered t_kinds t_numbers t_values) (fun u2 => fX2_removeAnswered_L30 N_t (fX2_removeAnswered_L4 N_t n) (x1 + (1 : Int32)) x2 t_length u2.1 u2.2.1 u2.2.2.1 u2.2.2.2)) (fX2_removeAnswered_L30 N_t (fX2_removeAnswered_L4 N_t n) x1 x2 t_length t_answered t_kinds t_numbers t_values))) = some out := h
    refine lv_iload_n hx hb dX2_removeAnswered_4 rfl (lv_at hl 2 rfl) ?_
    refine lv_aload_n hx hb dX2_removeAnswered_5 rfl (lv_at hl 0 rfl) ?_
    refine va_get (D := G.1) (ci := 2) (v := .int t_length) (C := RX2) (T := TX2) (N := 6) hx hb hB iX2 hown hK.1 hP 0 rfl rfl 5 (by decide) (hB _ kw240) (fun _ h9 => h9) rfl dX2_removeAnswered_6 ?_
    refine lv_icmp_ge (tgt := 36) hx hb dX2_removeAnswered_9 (by decide) (fun hc9 => ?_) (fun hc9 => ?_)
    · have h := brc_tt h hc9
      refine lv_aload_n hx hb dX2_removeAnswered_36 rfl (lv_at hl 0 rfl) ?_
      refine lv_iload_n hx hb dX2_removeAnswered_37 rfl (lv_at hl 1 rfl) ?_
      refine va_put (D := G.1) (ci := 2) (v := .int x1) (ty := .int) (C := RX2) (T := TX2) (N := 6) hx hb hB iX2 tyX2 tyX2_ok nmX2 hown hK.1 hP hD hS 0 rfl rfl 5 (by decide) (hB _ kw240) (fun _ h9 => h9) rfl (by decide +kernel) rfl rfl (Nat.le_of_ble_eq_true rfl) dX2_removeAnswered_38 (fun H locs hP hD hS => ?_)
      have hP : va_P G.1 vwCl (wdX2_removeAnswered G a_t a_t_answered a_t_kinds a_t_numbers a_t_values N_t t_most x1 t_answered t_kinds t_numbers t_values) H := hP
      have hD : va_D A (wdX2_removeAnswered G a_t a_t_answered a_t_kinds a_t_numbers a_t_values N_t t_most x1 t_answered t_kinds t_numbers t_values) := hD
      obtain rfl := Option.some.inj h
      exact W.vret hx hb hr (fun t ht hW => ⟨⟨(), rfl, trivial, by rw [ht]; exact hP, hD⟩, hS.F ht⟩) hS.2.2 dX2_removeAnswered_41
    · have h := brc_ff h hc9
      refine lv_aload_n hx hb dX2_removeAnswered_12 rfl (lv_at hl 0 rfl) ?_
      refine va_get (D := G.1) (ci := 2) (v := .ref a_t_answered) (C := RX2) (T := TX2) (N := 6) hx hb hB iX2 hown hK.1 hP 0 rfl rfl 4 (by decide) (hB _ kw239) (fun _ h9 => h9) rfl dX2_removeAnswered_13 ?_
      refine lv_iload_n hx hb dX2_removeAnswered_16 rfl (lv_at hl 2 rfl) ?_
      obtain ⟨hg1, h⟩ := grd_some h
      refine va_zald hx hb hK.1 hP 1 1 rfl rfl hg1 dX2_removeAnswered_17 ?_
      refine lv_if_ne (tgt := 30) hx hb dX2_removeAnswered_18 (by decide) (fun hc18 => ?_) (fun hc18 => ?_)
      · have h := brc_ff h hc18
        exact wX2_removeAnswered_L30 C ih x1 x2 t_length t_answered t_kinds t_numbers t_values _ _ _ h hP hD hS (lv_sub hl [0, 1, 2] rfl)
      · have h := brc_tt h hc18
        refine lv_aload_n hx hb dX2_removeAnswered_21 rfl (lv_at hl 0 rfl) ?_
        refine lv_iload_n hx hb dX2_removeAnswered_22 rfl (lv_at hl 2 rfl) ?_
        refine lv_iload_n hx hb dX2_removeAnswered_23 rfl (lv_at hl 1 rfl) ?_
        obtain ⟨u2, hu2, h⟩ := bnd_some h
        have hPc := hP.sub (ws' := (wdX2_move G a_t a_t_answered a_t_kinds a_t_numbers a_t_values N_t t_most t_length t_answered t_kinds t_numbers t_values)) [0, 1, 2, 3, 4] rfl
        have hDc := hD.sub (ws' := (wdX2_move G a_t a_t_answered a_t_kinds a_t_numbers a_t_values N_t t_most t_length t_answered t_kinds t_numbers t_values)) [0, 1, 2, 3, 4] (by decide) rfl
        refine g_v (wc := (wdX2_move G a_t a_t_answered a_t_kinds a_t_numbers a_t_values N_t t_most t_length t_answered t_kinds t_numbers t_values)) (w1 := (wdX2_move G a_t a_t_answered a_t_kinds a_t_numbers a_t_values N_t t_most t_length u2.1 u2.2.1 u2.2.2.1 u2.2.2.2)) (w2 := (wdX2_removeAnswered G a_t a_t_answered a_t_kinds a_t_numbers a_t_values N_t t_most t_length u2.1 u2.2.1 u2.2.2.1 u2.2.2.2)) (va_runV (As := [.int x2, .int x1]) (rest := []) ⟨hx, hb, hml, hown, hts⟩ (mX2_move l G a_t a_t_answered a_t_kinds a_t_numbers a_t_values N_t t_most t_length x2 x1 t_answered t_kinds t_numbers t_values H.size u2 hu2) ⟨(callB_of 2 hts (bgIn kw570) rfl rfl rfl (hB _ kw55) (hB _ kw567) hdX2_move ⟨(Nat.le_of_ble_eq_true rfl), (Nat.le_of_ble_eq_true rfl)⟩), hB _ kw569, hB _ kw16⟩ (gPreV (ci := 2) (qr := 0) hK hPc hDc rfl rfl rfl) rfl rfl hl.1 rfl (lv_room (Nat.le_of_ble_eq_true rfl)) dX2_removeAnswered_24 ⟨(Nat.le_of_ble_eq_true rfl), (Nat.le_of_ble_eq_true rfl)⟩) hP hD hS hA [0, 1, 2, 3, 4] rfl rfl [.inr 0, .inr 1, .inr 2, .inr 3, .inr 4] rfl rfl (fun H locs hP hD hS => ?_)
        refine lv_iinc (v := (x1 + (1 : Int32))) (lv' := [(1, .int (x1 + (1 : Int32))), (0, .ref a_t), (2, .int x2)]) hx hb dX2_removeAnswered_27 hl (k := 1) rfl rfl (by decide) rfl (fun ls hl => ?_)
        exact wX2_removeAnswered_L30 C ih (x1 + (1 : Int32)) x2 t_length u2.1 u2.2.1 u2.2.2.1 u2.2.2.2 _ _ _ h hP hD hS (lv_sub hl [1, 0, 2] rfl)
noncomputable def fX2_removeAnswered (N_t : Nat) (t_length : Int32) (t_answered : Nat → Int32) (t_kinds : Nat → Int32) (t_numbers : Nat → Int32) (t_values : Nat → Int32) : Option (Int32 × (Nat → Int32) × (Nat → Int32) × (Nat → Int32) × (Nat → Int32)) := fX2_removeAnswered_L4 N_t FU (0 : Int32) (0 : Int32) t_length t_answered t_kinds t_numbers t_values
set_option maxHeartbeats 4000000 in
set_option maxRecDepth 100000 in
theorem wX2_removeAnswered_E {p : Program} {l : Launch} {e : Env} {s : State} {m : MethodId} {args : Array Value} {below : List Frame} {meth : Method} {c : Code} {G : GT} {A : Nat → Prop} (C : cxt p s m args meth c cX2_removeAnswered none 3 "OutStation$EventRow" wsX2_removeAnswered G A) {a_t : Nat} {a_t_answered : Nat} {a_t_kinds : Nat} {a_t_numbers : Nat} {a_t_values : Nat} {N_t : Nat} {t_most : Int32} {out : Int32 × (Nat → Int32) × (Nat → Int32) × (Nat → Int32) × (Nat → Int32)} : ∀ (t_length : Int32) (t_answered : Nat → Int32) (t_kinds : Nat → Int32) (t_numbers : Nat → Int32) (t_values : Nat → Int32) (H : Heap) (locs : List Loc) (ls : Array Slot), fX2_removeAnswered N_t t_length t_answered t_kinds t_numbers t_values = some out → va_P G.1 vwCl (wdX2_removeAnswered G a_t a_t_answered a_t_kinds a_t_numbers a_t_values N_t t_most t_length t_answered t_kinds t_numbers t_values) H → va_D A (wdX2_removeAnswered G a_t a_t_answered a_t_kinds a_t_numbers a_t_values N_t t_most t_length t_answered t_kinds t_numbers t_values) → va_S A s.heap H locs → lv_has ls 3 [(0, .ref a_t)] → W p l e rmX2_removeAnswered s m args below meth c H locs 0 0 (MQ below (gQv G A (wdX2_removeAnswered G a_t a_t_answered a_t_kinds a_t_numbers a_t_values N_t t_most out.1 out.2.1 out.2.2.1 out.2.2.2.1 out.2.2.2.2)) args s 0 0 A) (F0 m 0 ls []) := by
  obtain ⟨hx, hb, hr, hml, hown, hts, hlocks, hA, hK⟩ := id C
  have hB : ∀ w ∈ BG, w.before args s = true := fun w h => hts w (List.mem_cons_of_mem _ h)
  intro t_length t_answered t_kinds t_numbers t_values H locs ls h hP hD hS hl
  unfold fX2_removeAnswered at h
  refine lv_iconst (v := (0 : Int32)) hx hb dX2_removeAnswered_0 (by decide) ?_
  refine lv_istore_n (lv' := [(1, .int (0 : Int32)), (0, .ref a_t)]) hx hb dX2_removeAnswered_1 rfl hl (by decide) rfl (fun ls hl => ?_)
  refine lv_iconst (v := (0 : Int32)) hx hb dX2_removeAnswered_2 (by decide) ?_
  refine lv_istore_n (lv' := [(2, .int (0 : Int32)), (1, .int (0 : Int32)), (0, .ref a_t)]) hx hb dX2_removeAnswered_3 rfl hl (by decide) rfl (fun ls hl => ?_)
  exact wX2_removeAnswered_L4 C FU (0 : Int32) (0 : Int32) t_length t_answered t_kinds t_numbers t_values _ _ _ h hP hD hS (lv_sub hl [2, 1, 0] rfl)
set_option maxHeartbeats 4000000 in
set_option maxRecDepth 100000 in
theorem mX2_removeAnswered (l : Launch) (G : GT) (a_t : Nat) (a_t_answered : Nat) (a_t_kinds : Nat) (a_t_numbers : Nat) (a_t_values : Nat) (N_t : Nat) (t_most : Int32) (t_length : Int32) (t_answered : Nat → Int32) (t_kinds : Nat → Int32) (t_numbers : Nat → Int32) (t_values : Nat → Int32) (sz : Nat) (out : Int32 × (Nat → Int32) × (Nat → Int32) × (Nat → Int32) × (Nat → Int32)) (h : fX2_removeAnswered N_t t_length t_answered t_kinds t_numbers t_values = some out) : Met l yX2_removeAnswered wsX2_removeAnswered rmX2_removeAnswered (gPc G [.ref a_t] sz (wdX2_removeAnswered G a_t a_t_answered a_t_kinds a_t_numbers a_t_values N_t t_most t_length t_answered t_kinds t_numbers t_values)) (gQv G (va_A (wdX2_removeAnswered G a_t a_t_answered a_t_kinds a_t_numbers a_t_values N_t t_most t_length t_answered t_kinds t_numbers t_values) sz) (wdX2_removeAnswered G a_t a_t_answered a_t_kinds a_t_numbers a_t_values N_t t_most out.1 out.2.1 out.2.2.1 out.2.2.2.1 out.2.2.2.2)) 0 0 (va_A (wdX2_removeAnswered G a_t a_t_answered a_t_kinds a_t_numbers a_t_values N_t t_most t_length t_answered t_kinds t_numbers t_values) sz) := by
  refine Met.ofW (cc := cX2_removeAnswered) (maxL := 3) (ret := none) (by decide) rfl ?_
  intro p e s m args below meth c s₁ B hml hv
  obtain ⟨rfl, hsz, hP, hK, hD0⟩ := hv
  have hts := atoms_spec (ws := wsX2_removeAnswered) B.pre
  have hown : s.vm.findClass "OutStation$EventRow" = some m.cls := findClass_of_methodNamed B.named
  subst hsz
  have hD := hD0.self (sz := s.heap.size)
  generalize hAe : va_A (wdX2_removeAnswered G a_t a_t_answered a_t_kinds a_t_numbers a_t_values N_t t_most t_length t_answered t_kinds t_numbers t_values) s.heap.size = A at hD ⊢
  have hA : ∀ q : Nat, s.heap.size ≤ q → A q := fun q h => by rw [← hAe]; exact Or.inr h
  have hS : va_S A s.heap s.heap [] := va_S.rf
  have hl := lv_entry ([.ref a_t]) (n := 3) (Nat.le_of_ble_eq_true rfl)
  rw [lg_entry_eq]
  generalize (lg_sl ([.ref a_t]) ++ List.replicate (3 - (lg_sl ([.ref a_t])).length) Slot.unset).toArray = ls at hl ⊢
  exact wX2_removeAnswered_E ⟨B.exec, B.bytes, B.returns, hml, hown, hts, B.notSynchronized, hA, hK⟩ t_length t_answered t_kinds t_numbers t_values _ _ _ h hP hD hS hl
/-! ### OutStation$EventRow.unmarkAll ()V -/
abbrev wdX2_unmarkAll (G : GT) (a_t : Nat) (a_t_answered : Nat) (a_t_kinds : Nat) (a_t_numbers : Nat) (a_t_values : Nat) (N_t : Nat) (t_most : Int32) (t_length : Int32) (t_answered : Nat → Int32) : va_W := [(a_t, .inr (2, [.int t_most, .ref a_t_kinds, .ref a_t_numbers, .ref a_t_values, .ref a_t_answered, .int t_length])), (a_t_answered, .inl (G.2.2.1, N_t, .inl t_answered))]
abbrev wsX2_unmarkAll : List Cond := .code yX2_unmarkAll cX2_unmarkAll 2 none :: BG
abbrev rmX2_unmarkAll : Room := { frames := 0, cells := 0, slots := 0, locals := 0 }
noncomputable def fX2_unmarkAll_L2 (N_t : Nat) (t_length : Int32) (n : Nat) : Int32 → (Nat → Int32) → Option ((Nat → Int32)) := Nat.rec (motive := fun _ => Int32 → (Nat → Int32) → Option ((Nat → Int32))) (fun _ _ => none) (fun _ k_L2 x1 t_answered => brc (t_length ≤ x1) (some (t_answered)) (grd (vp_in x1 N_t) (k_L2 (x1 + (1 : Int32)) (upd t_answered (ix x1) (0 : Int32))))) n
set_option maxHeartbeats 4000000 in
set_option maxRecDepth 100000 in
theorem wX2_unmarkAll_L2 {p : Program} {l : Launch} {e : Env} {s : State} {m : MethodId} {args : Array Value} {below : List Frame} {meth : Method} {c : Code} {G : GT} {A : Nat → Prop} (C : cxt p s m args meth c cX2_unmarkAll none 2 "OutStation$EventRow" wsX2_unmarkAll G A) {a_t : Nat} {a_t_answered : Nat} {a_t_kinds : Nat} {a_t_numbers : Nat} {a_t_values : Nat} {N_t : Nat} {t_most : Int32} {t_length : Int32} {out : (Nat → Int32)} : ∀ (n : Nat) (x1 : Int32) (t_answered : Nat → Int32) (H : Heap) (locs : List Loc) (ls : Array Slot), fX2_unmarkAll_L2 N_t t_length n x1 t_answered = some out → va_P G.1 vwCl (wdX2_unmarkAll G a_t a_t_answered a_t_kinds a_t_numbers a_t_values N_t t_most t_length t_answered) H → va_D A (wdX2_unmarkAll G a_t a_t_answered a_t_kinds a_t_numbers a_t_values N_t t_most t_length t_answered) → va_S A s.heap H locs → lv_has ls 2 [(0, .ref a_t), (1, .int x1)] → W p l e rmX2_unmarkAll s m args below meth c H locs 0 0 (MQ below (gQv G A (wdX2_unmarkAll G a_t a_t_answered a_t_kinds a_t_numbers a_t_values N_t t_most t_length out)) args s 0 0 A) (F0 m 2 ls []) := by
  obtain ⟨hx, hb, hr, hml, hown, hts, hlocks, hA, hK⟩ := id C
  have hB : ∀ w ∈ BG, w.before args s = true := fun w h => hts w (List.mem_cons_of_mem _ h)
  intro n
  induction n with
  | zero =>
    intro x1 t_answered H locs ls h hP hD hS hl
    cases h
  | succ n ih =>
    intro x1 t_answered H locs ls h hP hD hS hl
    replace h : brc (t_length ≤ x1) (some (t_answered)) (grd (vp_in x1 N_t) ((fX2_unmarkAll_L2 N_t t_length n) (x1 + (1 : Int32)) (upd t_answered (ix x1) (0 : Int32)))) = some out := h
    refine lv_iload_n hx hb dX2_unmarkAll_2 rfl (lv_at hl 1 rfl) ?_
    refine lv_aload_n hx hb dX2_unmarkAll_3 rfl (lv_at hl 0 rfl) ?_
    refine va_get (D := G.1) (ci := 2) (v := .int t_length) (C := RX2) (T := TX2) (N := 6) hx hb hB iX2 hown hK.1 hP 0 rfl rfl 5 (by decide) (hB _ kw240) (fun _ h9 => h9) rfl dX2_unmarkAll_4 ?_
    refine lv_icmp_ge (tgt := 23) hx hb dX2_unmarkAll_7 (by decide) (fun hc7 => ?_) (fun hc7 => ?_)
    · have h := brc_tt h hc7
      obtain rfl := Option.some.inj h
      exact W.vret hx hb hr (fun t ht hW => ⟨⟨(), rfl, trivial, by rw [ht]; exact hP, hD⟩, hS.F ht⟩) hS.2.2 dX2_unmarkAll_23
    · have h := brc_ff h hc7
      refine lv_aload_n hx hb dX2_unmarkAll_10 rfl (lv_at hl 0 rfl) ?_
      refine va_get (D := G.1) (ci := 2) (v := .ref a_t_answered) (C := RX2) (T := TX2) (N := 6) hx hb hB iX2 hown hK.1 hP 0 rfl rfl 4 (by decide) (hB _ kw239) (fun _ h9 => h9) rfl dX2_unmarkAll_11 ?_
      refine lv_iload_n hx hb dX2_unmarkAll_14 rfl (lv_at hl 1 rfl) ?_
      refine lv_iconst (v := (0 : Int32)) hx hb dX2_unmarkAll_15 (by decide) ?_
      obtain ⟨hg1, h⟩ := grd_some h
      refine va_zast hx hb hK.1 hP hD hS 1 1 rfl rfl hg1 dX2_unmarkAll_16 (fun H locs hP hD hS => ?_)
      rw [isB_vp (Or.inl rfl)] at hP hD
      have hP : va_P G.1 vwCl (wdX2_unmarkAll G a_t a_t_answered a_t_kinds a_t_numbers a_t_values N_t t_most t_length (upd t_answered (ix x1) (0 : Int32))) H := hP
      have hD : va_D A (wdX2_unmarkAll G a_t a_t_answered a_t_kinds a_t_numbers a_t_values N_t t_most t_length (upd t_answered (ix x1) (0 : Int32))) := hD
      refine lv_iinc (v := (x1 + (1 : Int32))) (lv' := [(1, .int (x1 + (1 : Int32))), (0, .ref a_t)]) hx hb dX2_unmarkAll_17 hl (k := 1) rfl rfl (by decide) rfl (fun ls hl => ?_)
      refine lv_goto (tgt := 2) hx hb dX2_unmarkAll_20 (by decide) ?_
      exact ih (x1 + (1 : Int32)) (upd t_answered (ix x1) (0 : Int32)) _ _ _ h hP hD hS (lv_sub hl [1, 0] rfl)
noncomputable def fX2_unmarkAll (N_t : Nat) (t_length : Int32) (t_answered : Nat → Int32) : Option ((Nat → Int32)) := fX2_unmarkAll_L2 N_t t_length FU (0 : Int32) t_answered
set_option maxHeartbeats 4000000 in
set_option maxRecDepth 100000 in
theorem wX2_unmarkAll_E {p : Program} {l : Launch} {e : Env} {s : State} {m : MethodId} {args : Array Value} {below : List Frame} {meth : Method} {c : Code} {G : GT} {A : Nat → Prop} (C : cxt p s m args meth c cX2_unmarkAll none 2 "OutStation$EventRow" wsX2_unmarkAll G A) {a_t : Nat} {a_t_answered : Nat} {a_t_kinds : Nat} {a_t_numbers : Nat} {a_t_values : Nat} {N_t : Nat} {t_most : Int32} {t_length : Int32} {out : (Nat → Int32)} : ∀ (t_answered : Nat → Int32) (H : Heap) (locs : List Loc) (ls : Array Slot), fX2_unmarkAll N_t t_length t_answered = some out → va_P G.1 vwCl (wdX2_unmarkAll G a_t a_t_answered a_t_kinds a_t_numbers a_t_values N_t t_most t_length t_answered) H → va_D A (wdX2_unmarkAll G a_t a_t_answered a_t_kinds a_t_numbers a_t_values N_t t_most t_length t_answered) → va_S A s.heap H locs → lv_has ls 2 [(0, .ref a_t)] → W p l e rmX2_unmarkAll s m args below meth c H locs 0 0 (MQ below (gQv G A (wdX2_unmarkAll G a_t a_t_answered a_t_kinds a_t_numbers a_t_values N_t t_most t_length out)) args s 0 0 A) (F0 m 0 ls []) := by
  obtain ⟨hx, hb, hr, hml, hown, hts, hlocks, hA, hK⟩ := id C
  have hB : ∀ w ∈ BG, w.before args s = true := fun w h => hts w (List.mem_cons_of_mem _ h)
  intro t_answered H locs ls h hP hD hS hl
  unfold fX2_unmarkAll at h
  refine lv_iconst (v := (0 : Int32)) hx hb dX2_unmarkAll_0 (by decide) ?_
  refine lv_istore_n (lv' := [(1, .int (0 : Int32)), (0, .ref a_t)]) hx hb dX2_unmarkAll_1 rfl hl (by decide) rfl (fun ls hl => ?_)
  exact wX2_unmarkAll_L2 C FU (0 : Int32) t_answered _ _ _ h hP hD hS (lv_sub hl [1, 0] rfl)
set_option maxHeartbeats 4000000 in
set_option maxRecDepth 100000 in
theorem mX2_unmarkAll (l : Launch) (G : GT) (a_t : Nat) (a_t_answered : Nat) (a_t_kinds : Nat) (a_t_numbers : Nat) (a_t_values : Nat) (N_t : Nat) (t_most : Int32) (t_length : Int32) (t_answered : Nat → Int32) (sz : Nat) (out : (Nat → Int32)) (h : fX2_unmarkAll N_t t_length t_answered = some out) : Met l yX2_unmarkAll wsX2_unmarkAll rmX2_unmarkAll (gPc G [.ref a_t] sz (wdX2_unmarkAll G a_t a_t_answered a_t_kinds a_t_numbers a_t_values N_t t_most t_length t_answered)) (gQv G (va_A (wdX2_unmarkAll G a_t a_t_answered a_t_kinds a_t_numbers a_t_values N_t t_most t_length t_answered) sz) (wdX2_unmarkAll G a_t a_t_answered a_t_kinds a_t_numbers a_t_values N_t t_most t_length out)) 0 0 (va_A (wdX2_unmarkAll G a_t a_t_answered a_t_kinds a_t_numbers a_t_values N_t t_most t_length t_answered) sz) := by
  refine Met.ofW (cc := cX2_unmarkAll) (maxL := 2) (ret := none) (by decide) rfl ?_
  intro p e s m args below meth c s₁ B hml hv
  obtain ⟨rfl, hsz, hP, hK, hD0⟩ := hv
  have hts := atoms_spec (ws := wsX2_unmarkAll) B.pre
  have hown : s.vm.findClass "OutStation$EventRow" = some m.cls := findClass_of_methodNamed B.named
  subst hsz
  have hD := hD0.self (sz := s.heap.size)
  generalize hAe : va_A (wdX2_unmarkAll G a_t a_t_answered a_t_kinds a_t_numbers a_t_values N_t t_most t_length t_answered) s.heap.size = A at hD ⊢
  have hA : ∀ q : Nat, s.heap.size ≤ q → A q := fun q h => by rw [← hAe]; exact Or.inr h
  have hS : va_S A s.heap s.heap [] := va_S.rf
  have hl := lv_entry ([.ref a_t]) (n := 2) (Nat.le_of_ble_eq_true rfl)
  rw [lg_entry_eq]
  generalize (lg_sl ([.ref a_t]) ++ List.replicate (2 - (lg_sl ([.ref a_t])).length) Slot.unset).toArray = ls at hl ⊢
  exact wX2_unmarkAll_E ⟨B.exec, B.bytes, B.returns, hml, hown, hts, B.notSynchronized, hA, hK⟩ t_answered _ _ _ h hP hD hS hl
/-! ### OutStation$EventRow.hasUnanswered ()Z -/
abbrev wdX2_hasUnanswered (G : GT) (a_t : Nat) (a_t_answered : Nat) (a_t_kinds : Nat) (a_t_numbers : Nat) (a_t_values : Nat) (N_t : Nat) (t_most : Int32) (t_length : Int32) (t_answered : Nat → Int32) : va_W := [(a_t, .inr (2, [.int t_most, .ref a_t_kinds, .ref a_t_numbers, .ref a_t_values, .ref a_t_answered, .int t_length])), (a_t_answered, .inl (G.2.2.1, N_t, .inl t_answered))]
abbrev wsX2_hasUnanswered : List Cond := .code yX2_hasUnanswered cX2_hasUnanswered 2 (some .boolean) :: BG
abbrev rmX2_hasUnanswered : Room := { frames := 0, cells := 0, slots := 0, locals := 0 }
noncomputable def fX2_hasUnanswered_L2 (N_t : Nat) (t_length : Int32) (t_answered : Nat → Int32) (n : Nat) : Int32 → Option (Int32) := Nat.rec (motive := fun _ => Int32 → Option (Int32)) (fun _ => none) (fun _ k_L2 x1 => brc (t_length ≤ x1) (some ((0 : Int32))) (grd (vp_in x1 N_t) (brc ((t_answered (ix x1)) = 0) (some ((1 : Int32))) (k_L2 (x1 + (1 : Int32)))))) n
set_option maxHeartbeats 4000000 in
set_option maxRecDepth 100000 in
theorem wX2_hasUnanswered_L2 {p : Program} {l : Launch} {e : Env} {s : State} {m : MethodId} {args : Array Value} {below : List Frame} {meth : Method} {c : Code} {G : GT} {A : Nat → Prop} (C : cxt p s m args meth c cX2_hasUnanswered (some .boolean) 2 "OutStation$EventRow" wsX2_hasUnanswered G A) {a_t : Nat} {a_t_answered : Nat} {a_t_kinds : Nat} {a_t_numbers : Nat} {a_t_values : Nat} {N_t : Nat} {t_most : Int32} {t_length : Int32} {t_answered : Nat → Int32} {out : Int32} : ∀ (n : Nat) (x1 : Int32) (H : Heap) (locs : List Loc) (ls : Array Slot), fX2_hasUnanswered_L2 N_t t_length t_answered n x1 = some out → va_P G.1 vwCl (wdX2_hasUnanswered G a_t a_t_answered a_t_kinds a_t_numbers a_t_values N_t t_most t_length t_answered) H → va_D A (wdX2_hasUnanswered G a_t a_t_answered a_t_kinds a_t_numbers a_t_values N_t t_most t_length t_answered) → va_S A s.heap H locs → lv_has ls 2 [(0, .ref a_t), (1, .int x1)] → W p l e rmX2_hasUnanswered s m args below meth c H locs 0 0 (MQ below (gQi G A out (wdX2_hasUnanswered G a_t a_t_answered a_t_kinds a_t_numbers a_t_values N_t t_most t_length t_answered)) args s 0 0 A) (F0 m 2 ls []) := by
  obtain ⟨hx, hb, hr, hml, hown, hts, hlocks, hA, hK⟩ := id C
  have hB : ∀ w ∈ BG, w.before args s = true := fun w h => hts w (List.mem_cons_of_mem _ h)
  intro n
  induction n with
  | zero =>
    intro x1 H locs ls h hP hD hS hl
    cases h
  | succ n ih =>
    intro x1 H locs ls h hP hD hS hl
    replace h : brc (t_length ≤ x1) (some ((0 : Int32))) (grd (vp_in x1 N_t) (brc ((t_answered (ix x1)) = 0) (some ((1 : Int32))) ((fX2_hasUnanswered_L2 N_t t_length t_answered n) (x1 + (1 : Int32))))) = some out := h
    refine lv_iload_n hx hb dX2_hasUnanswered_2 rfl (lv_at hl 1 rfl) ?_
    refine lv_aload_n hx hb dX2_hasUnanswered_3 rfl (lv_at hl 0 rfl) ?_
    refine va_get (D := G.1) (ci := 2) (v := .int t_length) (C := RX2) (T := TX2) (N := 6) hx hb hB iX2 hown hK.1 hP 0 rfl rfl 5 (by decide) (hB _ kw240) (fun _ h9 => h9) rfl dX2_hasUnanswered_4 ?_
    refine lv_icmp_ge (tgt := 27) hx hb dX2_hasUnanswered_7 (by decide) (fun hc7 => ?_) (fun hc7 => ?_)
    · have h := brc_tt h hc7
      refine lv_iconst (v := (0 : Int32)) hx hb dX2_hasUnanswered_27 (by decide) ?_
      obtain rfl := Option.some.inj h
      exact W.zret (v := (0 : Int32)) hx hb hr (isB_nar (Or.inl rfl)) (fun t ht hW => ⟨⟨_, (), rfl, rfl, by rw [ht]; exact hP, hD⟩, hS.F ht⟩) hS.2.2 dX2_hasUnanswered_28
    · have h := brc_ff h hc7
      refine lv_aload_n hx hb dX2_hasUnanswered_10 rfl (lv_at hl 0 rfl) ?_
      refine va_get (D := G.1) (ci := 2) (v := .ref a_t_answered) (C := RX2) (T := TX2) (N := 6) hx hb hB iX2 hown hK.1 hP 0 rfl rfl 4 (by decide) (hB _ kw239) (fun _ h9 => h9) rfl dX2_hasUnanswered_11 ?_
      refine lv_iload_n hx hb dX2_hasUnanswered_14 rfl (lv_at hl 1 rfl) ?_
      obtain ⟨hg1, h⟩ := grd_some h
      refine va_zald hx hb hK.1 hP 1 1 rfl rfl hg1 dX2_hasUnanswered_15 ?_
      refine lv_if_ne (tgt := 21) hx hb dX2_hasUnanswered_16 (by decide) (fun hc16 => ?_) (fun hc16 => ?_)
      · have h := brc_ff h hc16
        refine lv_iinc (v := (x1 + (1 : Int32))) (lv' := [(1, .int (x1 + (1 : Int32))), (0, .ref a_t)]) hx hb dX2_hasUnanswered_21 hl (k := 1) rfl rfl (by decide) rfl (fun ls hl => ?_)
        refine lv_goto (tgt := 2) hx hb dX2_hasUnanswered_24 (by decide) ?_
        exact ih (x1 + (1 : Int32)) _ _ _ h hP hD hS (lv_sub hl [1, 0] rfl)
      · have h := brc_tt h hc16
        refine lv_iconst (v := (1 : Int32)) hx hb dX2_hasUnanswered_19 (by decide) ?_
        obtain rfl := Option.some.inj h
        exact W.zret (v := (1 : Int32)) hx hb hr (isB_nar (Or.inr rfl)) (fun t ht hW => ⟨⟨_, (), rfl, rfl, by rw [ht]; exact hP, hD⟩, hS.F ht⟩) hS.2.2 dX2_hasUnanswered_20
noncomputable def fX2_hasUnanswered (N_t : Nat) (t_length : Int32) (t_answered : Nat → Int32) : Option (Int32) := fX2_hasUnanswered_L2 N_t t_length t_answered FU (0 : Int32)
set_option maxHeartbeats 4000000 in
set_option maxRecDepth 100000 in
theorem wX2_hasUnanswered_E {p : Program} {l : Launch} {e : Env} {s : State} {m : MethodId} {args : Array Value} {below : List Frame} {meth : Method} {c : Code} {G : GT} {A : Nat → Prop} (C : cxt p s m args meth c cX2_hasUnanswered (some .boolean) 2 "OutStation$EventRow" wsX2_hasUnanswered G A) {a_t : Nat} {a_t_answered : Nat} {a_t_kinds : Nat} {a_t_numbers : Nat} {a_t_values : Nat} {N_t : Nat} {t_most : Int32} {t_length : Int32} {t_answered : Nat → Int32} {out : Int32} : ∀ (H : Heap) (locs : List Loc) (ls : Array Slot), fX2_hasUnanswered N_t t_length t_answered = some out → va_P G.1 vwCl (wdX2_hasUnanswered G a_t a_t_answered a_t_kinds a_t_numbers a_t_values N_t t_most t_length t_answered) H → va_D A (wdX2_hasUnanswered G a_t a_t_answered a_t_kinds a_t_numbers a_t_values N_t t_most t_length t_answered) → va_S A s.heap H locs → lv_has ls 2 [(0, .ref a_t)] → W p l e rmX2_hasUnanswered s m args below meth c H locs 0 0 (MQ below (gQi G A out (wdX2_hasUnanswered G a_t a_t_answered a_t_kinds a_t_numbers a_t_values N_t t_most t_length t_answered)) args s 0 0 A) (F0 m 0 ls []) := by
  obtain ⟨hx, hb, hr, hml, hown, hts, hlocks, hA, hK⟩ := id C
  have hB : ∀ w ∈ BG, w.before args s = true := fun w h => hts w (List.mem_cons_of_mem _ h)
  intro H locs ls h hP hD hS hl
  unfold fX2_hasUnanswered at h
  refine lv_iconst (v := (0 : Int32)) hx hb dX2_hasUnanswered_0 (by decide) ?_
  refine lv_istore_n (lv' := [(1, .int (0 : Int32)), (0, .ref a_t)]) hx hb dX2_hasUnanswered_1 rfl hl (by decide) rfl (fun ls hl => ?_)
  exact wX2_hasUnanswered_L2 C FU (0 : Int32) _ _ _ h hP hD hS (lv_sub hl [1, 0] rfl)
set_option maxHeartbeats 4000000 in
set_option maxRecDepth 100000 in
theorem mX2_hasUnanswered (l : Launch) (G : GT) (a_t : Nat) (a_t_answered : Nat) (a_t_kinds : Nat) (a_t_numbers : Nat) (a_t_values : Nat) (N_t : Nat) (t_most : Int32) (t_length : Int32) (t_answered : Nat → Int32) (sz : Nat) (out : Int32) (h : fX2_hasUnanswered N_t t_length t_answered = some out) : Met l yX2_hasUnanswered wsX2_hasUnanswered rmX2_hasUnanswered (gPc G [.ref a_t] sz (wdX2_hasUnanswered G a_t a_t_answered a_t_kinds a_t_numbers a_t_values N_t t_most t_length t_answered)) (gQi G (va_A (wdX2_hasUnanswered G a_t a_t_answered a_t_kinds a_t_numbers a_t_values N_t t_most t_length t_answered) sz) out (wdX2_hasUnanswered G a_t a_t_answered a_t_kinds a_t_numbers a_t_values N_t t_most t_length t_answered)) 0 0 (va_A (wdX2_hasUnanswered G a_t a_t_answered a_t_kinds a_t_numbers a_t_values N_t t_most t_length t_answered) sz) := by
  refine Met.ofW (cc := cX2_hasUnanswered) (maxL := 2) (ret := (some .boolean)) (by decide) rfl ?_
  intro p e s m args below meth c s₁ B hml hv
  obtain ⟨rfl, hsz, hP, hK, hD0⟩ := hv
  have hts := atoms_spec (ws := wsX2_hasUnanswered) B.pre
  have hown : s.vm.findClass "OutStation$EventRow" = some m.cls := findClass_of_methodNamed B.named
  subst hsz
  have hD := hD0.self (sz := s.heap.size)
  generalize hAe : va_A (wdX2_hasUnanswered G a_t a_t_answered a_t_kinds a_t_numbers a_t_values N_t t_most t_length t_answered) s.heap.size = A at hD ⊢
  have hA : ∀ q : Nat, s.heap.size ≤ q → A q := fun q h => by rw [← hAe]; exact Or.inr h
  have hS : va_S A s.heap s.heap [] := va_S.rf
  have hl := lv_entry ([.ref a_t]) (n := 2) (Nat.le_of_ble_eq_true rfl)
  rw [lg_entry_eq]
  generalize (lg_sl ([.ref a_t]) ++ List.replicate (2 - (lg_sl ([.ref a_t])).length) Slot.unset).toArray = ls at hl ⊢
  exact wX2_hasUnanswered_E ⟨B.exec, B.bytes, B.returns, hml, hown, hts, B.notSynchronized, hA, hK⟩  _ _ _ h hP hD hS hl
