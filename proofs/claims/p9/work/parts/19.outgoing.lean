/-! ### OutStation$Outgoing.size ()I -/
abbrev wdX6_size (G : GT) (a_t : Nat) (a_t_row : Nat) (t_address : Int32) (t_master : Int32) (t_length : Int32) (t_nextNumber : Int32) : va_W := [(a_t, .inr (6, [.int t_address, .int t_master, .ref a_t_row, .int t_length, .int t_nextNumber]))]
abbrev wsX6_size : List Cond := .code yX6_size cX6_size 1 (some .int) :: BG
abbrev rmX6_size : Room := { frames := 0, cells := 0, slots := 0, locals := 0 }
noncomputable def fX6_size (t_length : Int32) : Option (Int32) := some (t_length)
set_option maxHeartbeats 4000000 in
set_option maxRecDepth 100000 in
theorem wX6_size_E {p : Program} {l : Launch} {e : Env} {s : State} {m : MethodId} {args : Array Value} {below : List Frame} {meth : Method} {c : Code} {G : GT} {A : Nat → Prop} (C : cxt p s m args meth c cX6_size (some .int) 1 "OutStation$Outgoing" wsX6_size G A) {a_t : Nat} {a_t_row : Nat} {t_address : Int32} {t_master : Int32} {t_length : Int32} {t_nextNumber : Int32} {out : Int32} : ∀ (H : Heap) (locs : List Loc) (ls : Array Slot), fX6_size t_length = some out → va_P G.1 vwCl (wdX6_size G a_t a_t_row t_address t_master t_length t_nextNumber) H → va_D A (wdX6_size G a_t a_t_row t_address t_master t_length t_nextNumber) → va_S A s.heap H locs → lv_has ls 1 [(0, .ref a_t)] → W p l e rmX6_size s m args below meth c H locs 0 0 (MQ below (gQi G A out (wdX6_size G a_t a_t_row t_address t_master t_length t_nextNumber)) args s 0 0 A) (F0 m 0 ls []) := by
  obtain ⟨hx, hb, hr, hml, hown, hts, hlocks, hA, hK⟩ := id C
  have hB : ∀ w ∈ BG, w.before args s = true := fun w h => hts w (List.mem_cons_of_mem _ h)
  intro H locs ls h hP hD hS hl
  unfold fX6_size at h
  refine lv_aload_n hx hb dX6_size_0 rfl (lv_at hl 0 rfl) ?_
  refine va_get (D := G.1) (ci := 6) (v := .int t_length) (C := RX6) (T := TX6) (N := 5) hx hb hB iX6 hown hK.1 hP 0 rfl rfl 3 (by decide) (hB _ kw177) (fun _ h9 => h9) rfl dX6_size_1 ?_
  obtain rfl := Option.some.inj h
  exact W.iret (v := t_length) hx hb hr (fun t ht hW => ⟨⟨_, (), rfl, rfl, by rw [ht]; exact hP, hD⟩, hS.F ht⟩) hS.2.2 dX6_size_4
set_option maxHeartbeats 4000000 in
set_option maxRecDepth 100000 in
theorem mX6_size (l : Launch) (G : GT) (a_t : Nat) (a_t_row : Nat) (t_address : Int32) (t_master : Int32) (t_length : Int32) (t_nextNumber : Int32) (sz : Nat) (out : Int32) (h : fX6_size t_length = some out) : Met l yX6_size wsX6_size rmX6_size (gPc G [.ref a_t] sz (wdX6_size G a_t a_t_row t_address t_master t_length t_nextNumber)) (gQi G (va_A (wdX6_size G a_t a_t_row t_address t_master t_length t_nextNumber) sz) out (wdX6_size G a_t a_t_row t_address t_master t_length t_nextNumber)) 0 0 (va_A (wdX6_size G a_t a_t_row t_address t_master t_length t_nextNumber) sz) := by
  refine Met.ofW (cc := cX6_size) (maxL := 1) (ret := (some .int)) (by decide) rfl ?_
  intro p e s m args below meth c s₁ B hml hv
  obtain ⟨rfl, hsz, hP, hK, hD0⟩ := hv
  have hts := atoms_spec (ws := wsX6_size) B.pre
  have hown : s.vm.findClass "OutStation$Outgoing" = some m.cls := findClass_of_methodNamed B.named
  subst hsz
  have hD := hD0.self (sz := s.heap.size)
  generalize hAe : va_A (wdX6_size G a_t a_t_row t_address t_master t_length t_nextNumber) s.heap.size = A at hD ⊢
  have hA : ∀ q : Nat, s.heap.size ≤ q → A q := fun q h => by rw [← hAe]; exact Or.inr h
  have hS : va_S A s.heap s.heap [] := va_S.rf
  have hl := lv_entry ([.ref a_t]) (n := 1) (Nat.le_of_ble_eq_true rfl)
  rw [lg_entry_eq]
  generalize (lg_sl ([.ref a_t]) ++ List.replicate (1 - (lg_sl ([.ref a_t])).length) Slot.unset).toArray = ls at hl ⊢
  exact wX6_size_E ⟨B.exec, B.bytes, B.returns, hml, hown, hts, B.notSynchronized, hA, hK⟩  _ _ _ h hP hD hS hl
/-! ### OutStation$Outgoing.byteAt (I)I -/
abbrev wdX6_byteAt (G : GT) (a_t : Nat) (a_t_row : Nat) (t_address : Int32) (t_master : Int32) (t_length : Int32) (t_nextNumber : Int32) (t_row : Nat → Int32) : va_W := [(a_t, .inr (6, [.int t_address, .int t_master, .ref a_t_row, .int t_length, .int t_nextNumber])), (a_t_row, .inl (G.2.1, 4000, .inl t_row))]
abbrev wsX6_byteAt : List Cond := .code yX6_byteAt cX6_byteAt 2 (some .int) :: BG
abbrev rmX6_byteAt : Room := { frames := 0, cells := 0, slots := 0, locals := 0 }
noncomputable def fX6_byteAt (t_row : Nat → Int32) (x1 : Int32) : Option (Int32) := grd (vp_in x1 4000) (some ((t_row (ix x1))))
set_option maxHeartbeats 4000000 in
set_option maxRecDepth 100000 in
theorem wX6_byteAt_E {p : Program} {l : Launch} {e : Env} {s : State} {m : MethodId} {args : Array Value} {below : List Frame} {meth : Method} {c : Code} {G : GT} {A : Nat → Prop} (C : cxt p s m args meth c cX6_byteAt (some .int) 2 "OutStation$Outgoing" wsX6_byteAt G A) {a_t : Nat} {a_t_row : Nat} {t_address : Int32} {t_master : Int32} {t_length : Int32} {t_nextNumber : Int32} {t_row : Nat → Int32} {out : Int32} : ∀ (x1 : Int32) (H : Heap) (locs : List Loc) (ls : Array Slot), fX6_byteAt t_row x1 = some out → va_P G.1 vwCl (wdX6_byteAt G a_t a_t_row t_address t_master t_length t_nextNumber t_row) H → va_D A (wdX6_byteAt G a_t a_t_row t_address t_master t_length t_nextNumber t_row) → va_S A s.heap H locs → lv_has ls 2 [(0, .ref a_t), (1, .int x1)] → W p l e rmX6_byteAt s m args below meth c H locs 0 0 (MQ below (gQi G A out (wdX6_byteAt G a_t a_t_row t_address t_master t_length t_nextNumber t_row)) args s 0 0 A) (F0 m 0 ls []) := by
  obtain ⟨hx, hb, hr, hml, hown, hts, hlocks, hA, hK⟩ := id C
  have hB : ∀ w ∈ BG, w.before args s = true := fun w h => hts w (List.mem_cons_of_mem _ h)
  intro x1 H locs ls h hP hD hS hl
  unfold fX6_byteAt at h
  refine lv_aload_n hx hb dX6_byteAt_0 rfl (lv_at hl 0 rfl) ?_
  refine va_get (D := G.1) (ci := 6) (v := .ref a_t_row) (C := RX6) (T := TX6) (N := 5) hx hb hB iX6 hown hK.1 hP 0 rfl rfl 2 (by decide) (hB _ kw176) (fun _ h9 => h9) rfl dX6_byteAt_1 ?_
  refine lv_iload_n hx hb dX6_byteAt_4 rfl (lv_at hl 1 rfl) ?_
  obtain ⟨hg1, h⟩ := grd_some h
  refine va_iald hx hb hK.1 hP 1 0 rfl rfl hg1 dX6_byteAt_5 ?_
  obtain rfl := Option.some.inj h
  exact W.iret (v := (t_row (ix x1))) hx hb hr (fun t ht hW => ⟨⟨_, (), rfl, rfl, by rw [ht]; exact hP, hD⟩, hS.F ht⟩) hS.2.2 dX6_byteAt_6
set_option maxHeartbeats 4000000 in
set_option maxRecDepth 100000 in
theorem mX6_byteAt (l : Launch) (G : GT) (a_t : Nat) (a_t_row : Nat) (t_address : Int32) (t_master : Int32) (t_length : Int32) (t_nextNumber : Int32) (t_row : Nat → Int32) (x1 : Int32) (sz : Nat) (out : Int32) (h : fX6_byteAt t_row x1 = some out) : Met l yX6_byteAt wsX6_byteAt rmX6_byteAt (gPc G [.ref a_t, .int x1] sz (wdX6_byteAt G a_t a_t_row t_address t_master t_length t_nextNumber t_row)) (gQi G (va_A (wdX6_byteAt G a_t a_t_row t_address t_master t_length t_nextNumber t_row) sz) out (wdX6_byteAt G a_t a_t_row t_address t_master t_length t_nextNumber t_row)) 0 0 (va_A (wdX6_byteAt G a_t a_t_row t_address t_master t_length t_nextNumber t_row) sz) := by
  refine Met.ofW (cc := cX6_byteAt) (maxL := 2) (ret := (some .int)) (by decide) rfl ?_
  intro p e s m args below meth c s₁ B hml hv
  obtain ⟨rfl, hsz, hP, hK, hD0⟩ := hv
  have hts := atoms_spec (ws := wsX6_byteAt) B.pre
  have hown : s.vm.findClass "OutStation$Outgoing" = some m.cls := findClass_of_methodNamed B.named
  subst hsz
  have hD := hD0.self (sz := s.heap.size)
  generalize hAe : va_A (wdX6_byteAt G a_t a_t_row t_address t_master t_length t_nextNumber t_row) s.heap.size = A at hD ⊢
  have hA : ∀ q : Nat, s.heap.size ≤ q → A q := fun q h => by rw [← hAe]; exact Or.inr h
  have hS : va_S A s.heap s.heap [] := va_S.rf
  have hl := lv_entry ([.ref a_t, .int x1]) (n := 2) (Nat.le_of_ble_eq_true rfl)
  rw [lg_entry_eq]
  generalize (lg_sl ([.ref a_t, .int x1]) ++ List.replicate (2 - (lg_sl ([.ref a_t, .int x1])).length) Slot.unset).toArray = ls at hl ⊢
  exact wX6_byteAt_E ⟨B.exec, B.bytes, B.returns, hml, hown, hts, B.notSynchronized, hA, hK⟩ x1 _ _ _ h hP hD hS hl
/-! ### OutStation$Outgoing.empty ()V -/
abbrev wdX6_empty (G : GT) (a_t : Nat) (a_t_row : Nat) (t_address : Int32) (t_master : Int32) (t_length : Int32) (t_nextNumber : Int32) : va_W := [(a_t, .inr (6, [.int t_address, .int t_master, .ref a_t_row, .int t_length, .int t_nextNumber]))]
abbrev wsX6_empty : List Cond := .code yX6_empty cX6_empty 1 none :: BG
abbrev rmX6_empty : Room := { frames := 0, cells := 0, slots := 0, locals := 0 }
noncomputable def fX6_empty (t_length : Int32) : Option (Int32) := some ((0 : Int32))
set_option maxHeartbeats 4000000 in
set_option maxRecDepth 100000 in
theorem wX6_empty_E {p : Program} {l : Launch} {e : Env} {s : State} {m : MethodId} {args : Array Value} {below : List Frame} {meth : Method} {c : Code} {G : GT} {A : Nat → Prop} (C : cxt p s m args meth c cX6_empty none 1 "OutStation$Outgoing" wsX6_empty G A) {a_t : Nat} {a_t_row : Nat} {t_address : Int32} {t_master : Int32} {t_nextNumber : Int32} {out : Int32} : ∀ (t_length : Int32) (H : Heap) (locs : List Loc) (ls : Array Slot), fX6_empty t_length = some out → va_P G.1 vwCl (wdX6_empty G a_t a_t_row t_address t_master t_length t_nextNumber) H → va_D A (wdX6_empty G a_t a_t_row t_address t_master t_length t_nextNumber) → va_S A s.heap H locs → lv_has ls 1 [(0, .ref a_t)] → W p l e rmX6_empty s m args below meth c H locs 0 0 (MQ below (gQv G A (wdX6_empty G a_t a_t_row t_address t_master out t_nextNumber)) args s 0 0 A) (F0 m 0 ls []) := by
  obtain ⟨hx, hb, hr, hml, hown, hts, hlocks, hA, hK⟩ := id C
  have hB : ∀ w ∈ BG, w.before args s = true := fun w h => hts w (List.mem_cons_of_mem _ h)
  intro t_length H locs ls h hP hD hS hl
  unfold fX6_empty at h
  refine lv_aload_n hx hb dX6_empty_0 rfl (lv_at hl 0 rfl) ?_
  refine lv_iconst (v := (0 : Int32)) hx hb dX6_empty_1 (by decide) ?_
  refine va_put (D := G.1) (ci := 6) (v := .int (0 : Int32)) (ty := .int) (C := RX6) (T := TX6) (N := 5) hx hb hB iX6 tyX6 tyX6_ok nmX6 hown hK.1 hP hD hS 0 rfl rfl 3 (by decide) (hB _ kw177) (fun _ h9 => h9) rfl (by decide +kernel) rfl rfl (Nat.le_of_ble_eq_true rfl) dX6_empty_2 (fun H locs hP hD hS => ?_)
  have hP : va_P G.1 vwCl (wdX6_empty G a_t a_t_row t_address t_master (0 : Int32) t_nextNumber) H := hP
  have hD : va_D A (wdX6_empty G a_t a_t_row t_address t_master (0 : Int32) t_nextNumber) := hD
  obtain rfl := Option.some.inj h
  exact W.vret hx hb hr (fun t ht hW => ⟨⟨(), rfl, trivial, by rw [ht]; exact hP, hD⟩, hS.F ht⟩) hS.2.2 dX6_empty_5
set_option maxHeartbeats 4000000 in
set_option maxRecDepth 100000 in
theorem mX6_empty (l : Launch) (G : GT) (a_t : Nat) (a_t_row : Nat) (t_address : Int32) (t_master : Int32) (t_nextNumber : Int32) (t_length : Int32) (sz : Nat) (out : Int32) (h : fX6_empty t_length = some out) : Met l yX6_empty wsX6_empty rmX6_empty (gPc G [.ref a_t] sz (wdX6_empty G a_t a_t_row t_address t_master t_length t_nextNumber)) (gQv G (va_A (wdX6_empty G a_t a_t_row t_address t_master t_length t_nextNumber) sz) (wdX6_empty G a_t a_t_row t_address t_master out t_nextNumber)) 0 0 (va_A (wdX6_empty G a_t a_t_row t_address t_master t_length t_nextNumber) sz) := by
  refine Met.ofW (cc := cX6_empty) (maxL := 1) (ret := none) (by decide) rfl ?_
  intro p e s m args below meth c s₁ B hml hv
  obtain ⟨rfl, hsz, hP, hK, hD0⟩ := hv
  have hts := atoms_spec (ws := wsX6_empty) B.pre
  have hown : s.vm.findClass "OutStation$Outgoing" = some m.cls := findClass_of_methodNamed B.named
  subst hsz
  have hD := hD0.self (sz := s.heap.size)
  generalize hAe : va_A (wdX6_empty G a_t a_t_row t_address t_master t_length t_nextNumber) s.heap.size = A at hD ⊢
  have hA : ∀ q : Nat, s.heap.size ≤ q → A q := fun q h => by rw [← hAe]; exact Or.inr h
  have hS : va_S A s.heap s.heap [] := va_S.rf
  have hl := lv_entry ([.ref a_t]) (n := 1) (Nat.le_of_ble_eq_true rfl)
  rw [lg_entry_eq]
  generalize (lg_sl ([.ref a_t]) ++ List.replicate (1 - (lg_sl ([.ref a_t])).length) Slot.unset).toArray = ls at hl ⊢
  exact wX6_empty_E ⟨B.exec, B.bytes, B.returns, hml, hown, hts, B.notSynchronized, hA, hK⟩ t_length _ _ _ h hP hD hS hl
/-! ### OutStation$Outgoing.hasRoomFor (I)Z -/
abbrev wdX6_hasRoomFor (G : GT) (a_t : Nat) (a_t_row : Nat) (t_address : Int32) (t_master : Int32) (t_length : Int32) (t_nextNumber : Int32) : va_W := [(a_t, .inr (6, [.int t_address, .int t_master, .ref a_t_row, .int t_length, .int t_nextNumber]))]
abbrev wsX6_hasRoomFor : List Cond := .code yX6_hasRoomFor cX6_hasRoomFor 2 (some .boolean) :: BG
abbrev rmX6_hasRoomFor : Room := { frames := 1, cells := 0, slots := 0, locals := 21 }
noncomputable def fX6_hasRoomFor_L20 (t_length : Int32) (s0 : Int32) : Option (Int32) := grd (isB s0) (some (s0))
set_option maxHeartbeats 4000000 in
set_option maxRecDepth 100000 in
theorem wX6_hasRoomFor_L20 {p : Program} {l : Launch} {e : Env} {s : State} {m : MethodId} {args : Array Value} {below : List Frame} {meth : Method} {c : Code} {G : GT} {A : Nat → Prop} (C : cxt p s m args meth c cX6_hasRoomFor (some .boolean) 2 "OutStation$Outgoing" wsX6_hasRoomFor G A) {a_t : Nat} {a_t_row : Nat} {t_address : Int32} {t_master : Int32} {t_length : Int32} {t_nextNumber : Int32} {out : Int32} : ∀ (s0 : Int32) (H : Heap) (locs : List Loc) (ls : Array Slot), fX6_hasRoomFor_L20 t_length s0 = some out → va_P G.1 vwCl (wdX6_hasRoomFor G a_t a_t_row t_address t_master t_length t_nextNumber) H → va_D A (wdX6_hasRoomFor G a_t a_t_row t_address t_master t_length t_nextNumber) → va_S A s.heap H locs → lv_has ls 2 [] → W p l e rmX6_hasRoomFor s m args below meth c H locs 0 0 (MQ below (gQi G A out (wdX6_hasRoomFor G a_t a_t_row t_address t_master t_length t_nextNumber)) args s 0 0 A) (F0 m 20 ls [.int s0]) := by
  obtain ⟨hx, hb, hr, hml, hown, hts, hlocks, hA, hK⟩ := id C
  have hB : ∀ w ∈ BG, w.before args s = true := fun w h => hts w (List.mem_cons_of_mem _ h)
  intro s0 H locs ls h hP hD hS hl
  unfold fX6_hasRoomFor_L20 at h
  obtain ⟨hg1, h⟩ := grd_some h
  obtain rfl := Option.some.inj h
  exact W.zret (v := s0) hx hb hr (isB_nar hg1) (fun t ht hW => ⟨⟨_, (), rfl, rfl, by rw [ht]; exact hP, hD⟩, hS.F ht⟩) hS.2.2 dX6_hasRoomFor_20
noncomputable def fX6_hasRoomFor (t_length : Int32) (x1 : Int32) : Option (Int32) := bnd (fX9_frameLength x1) (fun u1 => brc ((4000 : Int32) < (t_length + u1)) (fX6_hasRoomFor_L20 t_length (0 : Int32)) (fX6_hasRoomFor_L20 t_length (1 : Int32)))
set_option maxHeartbeats 4000000 in
set_option maxRecDepth 100000 in
theorem wX6_hasRoomFor_E {p : Program} {l : Launch} {e : Env} {s : State} {m : MethodId} {args : Array Value} {below : List Frame} {meth : Method} {c : Code} {G : GT} {A : Nat → Prop} (C : cxt p s m args meth c cX6_hasRoomFor (some .boolean) 2 "OutStation$Outgoing" wsX6_hasRoomFor G A) {a_t : Nat} {a_t_row : Nat} {t_address : Int32} {t_master : Int32} {t_length : Int32} {t_nextNumber : Int32} {out : Int32} : ∀ (x1 : Int32) (H : Heap) (locs : List Loc) (ls : Array Slot), fX6_hasRoomFor t_length x1 = some out → va_P G.1 vwCl (wdX6_hasRoomFor G a_t a_t_row t_address t_master t_length t_nextNumber) H → va_D A (wdX6_hasRoomFor G a_t a_t_row t_address t_master t_length t_nextNumber) → va_S A s.heap H locs → lv_has ls 2 [(0, .ref a_t), (1, .int x1)] → W p l e rmX6_hasRoomFor s m args below meth c H locs 0 0 (MQ below (gQi G A out (wdX6_hasRoomFor G a_t a_t_row t_address t_master t_length t_nextNumber)) args s 0 0 A) (F0 m 0 ls []) := by
  obtain ⟨hx, hb, hr, hml, hown, hts, hlocks, hA, hK⟩ := id C
  have hB : ∀ w ∈ BG, w.before args s = true := fun w h => hts w (List.mem_cons_of_mem _ h)
  intro x1 H locs ls h hP hD hS hl
  unfold fX6_hasRoomFor at h
  refine lv_aload_n hx hb dX6_hasRoomFor_0 rfl (lv_at hl 0 rfl) ?_
  refine va_get (D := G.1) (ci := 6) (v := .int t_length) (C := RX6) (T := TX6) (N := 5) hx hb hB iX6 hown hK.1 hP 0 rfl rfl 3 (by decide) (hB _ kw177) (fun _ h9 => h9) rfl dX6_hasRoomFor_1 ?_
  refine lv_iload_n hx hb dX6_hasRoomFor_4 rfl (lv_at hl 1 rfl) ?_
  obtain ⟨u1, hu1, h⟩ := bnd_some h
  have hPc := hP.sub (ws' := (wdX9_frameLength G)) [] rfl
  have hDc := hD.sub (ws' := (wdX9_frameLength G)) [] (by decide) rfl
  refine g_i (wc := (wdX9_frameLength G)) (w1 := (wdX9_frameLength G)) (w2 := (wdX6_hasRoomFor G a_t a_t_row t_address t_master t_length t_nextNumber)) (va_runSN (As := [.int x1]) (rest := [.int t_length]) ⟨hx, hb, hml, hown, hts⟩ (mX9_frameLength l G x1 H.size u1 hu1) ⟨(va_cnB 1 hts (bgIn kw445) rfl rfl rfl (hK.2.1 ("OutStation$Outgoing", 60, yX9_frameLength, "OutStation") (by decide +kernel)) (hB _ kw46) hdX9_frameLength ⟨(Nat.le_of_ble_eq_true rfl), (Nat.le_of_ble_eq_true rfl)⟩), hB _ kw444, trivial⟩ (gPreS hK hPc hDc) rfl rfl hl.1 rfl (lv_room (Nat.le_of_ble_eq_true rfl)) dX6_hasRoomFor_5 ⟨(Nat.le_of_ble_eq_true rfl), (Nat.le_of_ble_eq_true rfl)⟩) hP hD hS hA [] rfl rfl [.inl 0] rfl rfl (fun H locs hP hD hS => ?_)
  refine lv_iadd hx hb dX6_hasRoomFor_8 ?_
  refine lv_sipush (v := (4000 : Int32)) hx hb dX6_hasRoomFor_9 (by decide) ?_
  refine lv_icmp_gt (tgt := 19) hx hb dX6_hasRoomFor_12 (by decide) (fun hc12 => ?_) (fun hc12 => ?_)
  · have h := brc_tt h hc12
    refine lv_iconst (v := (0 : Int32)) hx hb dX6_hasRoomFor_19 (by decide) ?_
    exact wX6_hasRoomFor_L20 C (0 : Int32) _ _ _ h hP hD hS (lv_sub hl [] rfl)
  · have h := brc_ff h hc12
    refine lv_iconst (v := (1 : Int32)) hx hb dX6_hasRoomFor_15 (by decide) ?_
    refine lv_goto (tgt := 20) hx hb dX6_hasRoomFor_16 (by decide) ?_
    exact wX6_hasRoomFor_L20 C (1 : Int32) _ _ _ h hP hD hS (lv_sub hl [] rfl)
set_option maxHeartbeats 4000000 in
set_option maxRecDepth 100000 in
theorem mX6_hasRoomFor (l : Launch) (G : GT) (a_t : Nat) (a_t_row : Nat) (t_address : Int32) (t_master : Int32) (t_length : Int32) (t_nextNumber : Int32) (x1 : Int32) (sz : Nat) (out : Int32) (h : fX6_hasRoomFor t_length x1 = some out) : Met l yX6_hasRoomFor wsX6_hasRoomFor rmX6_hasRoomFor (gPc G [.ref a_t, .int x1] sz (wdX6_hasRoomFor G a_t a_t_row t_address t_master t_length t_nextNumber)) (gQi G (va_A (wdX6_hasRoomFor G a_t a_t_row t_address t_master t_length t_nextNumber) sz) out (wdX6_hasRoomFor G a_t a_t_row t_address t_master t_length t_nextNumber)) 0 0 (va_A (wdX6_hasRoomFor G a_t a_t_row t_address t_master t_length t_nextNumber) sz) := by
  refine Met.ofW (cc := cX6_hasRoomFor) (maxL := 2) (ret := (some .boolean)) (by decide) rfl ?_
  intro p e s m args below meth c s₁ B hml hv
  obtain ⟨rfl, hsz, hP, hK, hD0⟩ := hv
  have hts := atoms_spec (ws := wsX6_hasRoomFor) B.pre
  have hown : s.vm.findClass "OutStation$Outgoing" = some m.cls := findClass_of_methodNamed B.named
  subst hsz
  have hD := hD0.self (sz := s.heap.size)
  generalize hAe : va_A (wdX6_hasRoomFor G a_t a_t_row t_address t_master t_length t_nextNumber) s.heap.size = A at hD ⊢
  have hA : ∀ q : Nat, s.heap.size ≤ q → A q := fun q h => by rw [← hAe]; exact Or.inr h
  have hS : va_S A s.heap s.heap [] := va_S.rf
  have hl := lv_entry ([.ref a_t, .int x1]) (n := 2) (Nat.le_of_ble_eq_true rfl)
  rw [lg_entry_eq]
  generalize (lg_sl ([.ref a_t, .int x1]) ++ List.replicate (2 - (lg_sl ([.ref a_t, .int x1])).length) Slot.unset).toArray = ls at hl ⊢
  exact wX6_hasRoomFor_E ⟨B.exec, B.bytes, B.returns, hml, hown, hts, B.notSynchronized, hA, hK⟩ x1 _ _ _ h hP hD hS hl
/-! ### OutStation$Outgoing.put (I)V -/
abbrev wdX6_put (G : GT) (a_t : Nat) (a_t_row : Nat) (t_address : Int32) (t_master : Int32) (t_length : Int32) (t_nextNumber : Int32) (t_row : Nat → Int32) : va_W := [(a_t, .inr (6, [.int t_address, .int t_master, .ref a_t_row, .int t_length, .int t_nextNumber])), (a_t_row, .inl (G.2.1, 4000, .inl t_row))]
abbrev wsX6_put : List Cond := .code yX6_put cX6_put 2 none :: BG
abbrev rmX6_put : Room := { frames := 0, cells := 0, slots := 0, locals := 0 }
noncomputable def fX6_put (x1 : Int32) (t_length : Int32) (t_row : Nat → Int32) : Option (Int32 × (Nat → Int32)) := grd (vp_in t_length 4000) (some ((t_length + (1 : Int32)), (upd t_row (ix t_length) x1)))
set_option maxHeartbeats 4000000 in
set_option maxRecDepth 100000 in
theorem wX6_put_E {p : Program} {l : Launch} {e : Env} {s : State} {m : MethodId} {args : Array Value} {below : List Frame} {meth : Method} {c : Code} {G : GT} {A : Nat → Prop} (C : cxt p s m args meth c cX6_put none 2 "OutStation$Outgoing" wsX6_put G A) {a_t : Nat} {a_t_row : Nat} {t_address : Int32} {t_master : Int32} {t_nextNumber : Int32} {out : Int32 × (Nat → Int32)} : ∀ (x1 : Int32) (t_length : Int32) (t_row : Nat → Int32) (H : Heap) (locs : List Loc) (ls : Array Slot), fX6_put x1 t_length t_row = some out → va_P G.1 vwCl (wdX6_put G a_t a_t_row t_address t_master t_length t_nextNumber t_row) H → va_D A (wdX6_put G a_t a_t_row t_address t_master t_length t_nextNumber t_row) → va_S A s.heap H locs → lv_has ls 2 [(0, .ref a_t), (1, .int x1)] → W p l e rmX6_put s m args below meth c H locs 0 0 (MQ below (gQv G A (wdX6_put G a_t a_t_row t_address t_master out.1 t_nextNumber out.2)) args s 0 0 A) (F0 m 0 ls []) := by
  obtain ⟨hx, hb, hr, hml, hown, hts, hlocks, hA, hK⟩ := id C
  have hB : ∀ w ∈ BG, w.before args s = true := fun w h => hts w (List.mem_cons_of_mem _ h)
  intro x1 t_length t_row H locs ls h hP hD hS hl
  unfold fX6_put at h
  refine lv_aload_n hx hb dX6_put_0 rfl (lv_at hl 0 rfl) ?_
  refine va_get (D := G.1) (ci := 6) (v := .ref a_t_row) (C := RX6) (T := TX6) (N := 5) hx hb hB iX6 hown hK.1 hP 0 rfl rfl 2 (by decide) (hB _ kw176) (fun _ h9 => h9) rfl dX6_put_1 ?_
  refine lv_aload_n hx hb dX6_put_4 rfl (lv_at hl 0 rfl) ?_
  refine va_get (D := G.1) (ci := 6) (v := .int t_length) (C := RX6) (T := TX6) (N := 5) hx hb hB iX6 hown hK.1 hP 0 rfl rfl 3 (by decide) (hB _ kw177) (fun _ h9 => h9) rfl dX6_put_5 ?_
  refine lv_iload_n hx hb dX6_put_8 rfl (lv_at hl 1 rfl) ?_
  obtain ⟨hg1, h⟩ := grd_some h
  refine va_iast hx hb hK.1 hP hD hS 1 0 rfl rfl hg1 dX6_put_9 (fun H locs hP hD hS => ?_)
  have hP : va_P G.1 vwCl (wdX6_put G a_t a_t_row t_address t_master t_length t_nextNumber (upd t_row (ix t_length) x1)) H := hP
  have hD : va_D A (wdX6_put G a_t a_t_row t_address t_master t_length t_nextNumber (upd t_row (ix t_length) x1)) := hD
  refine lv_aload_n hx hb dX6_put_10 rfl (lv_at hl 0 rfl) ?_
  refine lv_dup hx hb dX6_put_11 rfl ?_
  refine va_get (D := G.1) (ci := 6) (v := .int t_length) (C := RX6) (T := TX6) (N := 5) hx hb hB iX6 hown hK.1 hP 0 rfl rfl 3 (by decide) (hB _ kw177) (fun _ h9 => h9) rfl dX6_put_12 ?_
  refine lv_iconst (v := (1 : Int32)) hx hb dX6_put_15 (by decide) ?_
  refine lv_iadd hx hb dX6_put_16 ?_
  refine va_put (D := G.1) (ci := 6) (v := .int (t_length + (1 : Int32))) (ty := .int) (C := RX6) (T := TX6) (N := 5) hx hb hB iX6 tyX6 tyX6_ok nmX6 hown hK.1 hP hD hS 0 rfl rfl 3 (by decide) (hB _ kw177) (fun _ h9 => h9) rfl (by decide +kernel) rfl rfl (Nat.le_of_ble_eq_true rfl) dX6_put_17 (fun H locs hP hD hS => ?_)
  have hP : va_P G.1 vwCl (wdX6_put G a_t a_t_row t_address t_master (t_length + (1 : Int32)) t_nextNumber (upd t_row (ix t_length) x1)) H := hP
  have hD : va_D A (wdX6_put G a_t a_t_row t_address t_master (t_length + (1 : Int32)) t_nextNumber (upd t_row (ix t_length) x1)) := hD
  obtain rfl := Option.some.inj h
  exact W.vret hx hb hr (fun t ht hW => ⟨⟨(), rfl, trivial, by rw [ht]; exact hP, hD⟩, hS.F ht⟩) hS.2.2 dX6_put_20
set_option maxHeartbeats 4000000 in
set_option maxRecDepth 100000 in
theorem mX6_put (l : Launch) (G : GT) (a_t : Nat) (a_t_row : Nat) (t_address : Int32) (t_master : Int32) (t_nextNumber : Int32) (x1 : Int32) (t_length : Int32) (t_row : Nat → Int32) (sz : Nat) (out : Int32 × (Nat → Int32)) (h : fX6_put x1 t_length t_row = some out) : Met l yX6_put wsX6_put rmX6_put (gPc G [.ref a_t, .int x1] sz (wdX6_put G a_t a_t_row t_address t_master t_length t_nextNumber t_row)) (gQv G (va_A (wdX6_put G a_t a_t_row t_address t_master t_length t_nextNumber t_row) sz) (wdX6_put G a_t a_t_row t_address t_master out.1 t_nextNumber out.2)) 0 0 (va_A (wdX6_put G a_t a_t_row t_address t_master t_length t_nextNumber t_row) sz) := by
  refine Met.ofW (cc := cX6_put) (maxL := 2) (ret := none) (by decide) rfl ?_
  intro p e s m args below meth c s₁ B hml hv
  obtain ⟨rfl, hsz, hP, hK, hD0⟩ := hv
  have hts := atoms_spec (ws := wsX6_put) B.pre
  have hown : s.vm.findClass "OutStation$Outgoing" = some m.cls := findClass_of_methodNamed B.named
  subst hsz
  have hD := hD0.self (sz := s.heap.size)
  generalize hAe : va_A (wdX6_put G a_t a_t_row t_address t_master t_length t_nextNumber t_row) s.heap.size = A at hD ⊢
  have hA : ∀ q : Nat, s.heap.size ≤ q → A q := fun q h => by rw [← hAe]; exact Or.inr h
  have hS : va_S A s.heap s.heap [] := va_S.rf
  have hl := lv_entry ([.ref a_t, .int x1]) (n := 2) (Nat.le_of_ble_eq_true rfl)
  rw [lg_entry_eq]
  generalize (lg_sl ([.ref a_t, .int x1]) ++ List.replicate (2 - (lg_sl ([.ref a_t, .int x1])).length) Slot.unset).toArray = ls at hl ⊢
  exact wX6_put_E ⟨B.exec, B.bytes, B.returns, hml, hown, hts, B.notSynchronized, hA, hK⟩ x1 t_length t_row _ _ _ h hP hD hS hl
/-! ### OutStation$Outgoing.putTwo (I)V -/
abbrev wdX6_putTwo (G : GT) (a_t : Nat) (a_t_row : Nat) (t_address : Int32) (t_master : Int32) (t_length : Int32) (t_nextNumber : Int32) (t_row : Nat → Int32) : va_W := [(a_t, .inr (6, [.int t_address, .int t_master, .ref a_t_row, .int t_length, .int t_nextNumber])), (a_t_row, .inl (G.2.1, 4000, .inl t_row))]
abbrev wsX6_putTwo : List Cond := .code yX6_putTwo cX6_putTwo 2 none :: BG
abbrev rmX6_putTwo : Room := { frames := 1, cells := 0, slots := 0, locals := 21 }
noncomputable def fX6_putTwo (x1 : Int32) (t_length : Int32) (t_row : Nat → Int32) : Option (Int32 × (Nat → Int32)) := bnd (fX6_put (x1 &&& (255 : Int32)) t_length t_row) (fun u1 => bnd (fX6_put (x1 >>> ((8 : Int32) &&& 31)) u1.1 u1.2) (fun u2 => some (u2.1, u2.2)))
set_option maxHeartbeats 4000000 in
set_option maxRecDepth 100000 in
theorem wX6_putTwo_E {p : Program} {l : Launch} {e : Env} {s : State} {m : MethodId} {args : Array Value} {below : List Frame} {meth : Method} {c : Code} {G : GT} {A : Nat → Prop} (C : cxt p s m args meth c cX6_putTwo none 2 "OutStation$Outgoing" wsX6_putTwo G A) {a_t : Nat} {a_t_row : Nat} {t_address : Int32} {t_master : Int32} {t_nextNumber : Int32} {out : Int32 × (Nat → Int32)} : ∀ (x1 : Int32) (t_length : Int32) (t_row : Nat → Int32) (H : Heap) (locs : List Loc) (ls : Array Slot), fX6_putTwo x1 t_length t_row = some out → va_P G.1 vwCl (wdX6_putTwo G a_t a_t_row t_address t_master t_length t_nextNumber t_row) H → va_D A (wdX6_putTwo G a_t a_t_row t_address t_master t_length t_nextNumber t_row) → va_S A s.heap H locs → lv_has ls 2 [(0, .ref a_t), (1, .int x1)] → W p l e rmX6_putTwo s m args below meth c H locs 0 0 (MQ below (gQv G A (wdX6_putTwo G a_t a_t_row t_address t_master out.1 t_nextNumber out.2)) args s 0 0 A) (F0 m 0 ls []) := by
  obtain ⟨hx, hb, hr, hml, hown, hts, hlocks, hA, hK⟩ := id C
  have hB : ∀ w ∈ BG, w.before args s = true := fun w h => hts w (List.mem_cons_of_mem _ h)
  intro x1 t_length t_row H locs ls h hP hD hS hl
  unfold fX6_putTwo at h
  refine lv_aload_n hx hb dX6_putTwo_0 rfl (lv_at hl 0 rfl) ?_
  refine lv_iload_n hx hb dX6_putTwo_1 rfl (lv_at hl 1 rfl) ?_
  refine lv_sipush (v := (255 : Int32)) hx hb dX6_putTwo_2 (by decide) ?_
  refine lv_iand hx hb dX6_putTwo_5 ?_
  obtain ⟨u1, hu1, h⟩ := bnd_some h
  have hPc := hP.sub (ws' := (wdX6_put G a_t a_t_row t_address t_master t_length t_nextNumber t_row)) [0, 1] rfl
  have hDc := hD.sub (ws' := (wdX6_put G a_t a_t_row t_address t_master t_length t_nextNumber t_row)) [0, 1] (by decide) rfl
  refine g_v (wc := (wdX6_put G a_t a_t_row t_address t_master t_length t_nextNumber t_row)) (w1 := (wdX6_put G a_t a_t_row t_address t_master u1.1 t_nextNumber u1.2)) (w2 := (wdX6_putTwo G a_t a_t_row t_address t_master u1.1 t_nextNumber u1.2)) (va_runV (As := [.int (x1 &&& (255 : Int32))]) (rest := []) ⟨hx, hb, hml, hown, hts⟩ (mX6_put l G a_t a_t_row t_address t_master t_nextNumber (x1 &&& (255 : Int32)) t_length t_row H.size u1 hu1) ⟨(callB_of 1 hts (bgIn kw494) rfl rfl rfl (hB _ kw51) (hB _ kw491) hdX6_put ⟨(Nat.le_of_ble_eq_true rfl), (Nat.le_of_ble_eq_true rfl)⟩), hB _ kw493, hB _ kw11⟩ (gPreV (ci := 6) (qr := 0) hK hPc hDc rfl rfl rfl) rfl rfl hl.1 rfl (lv_room (Nat.le_of_ble_eq_true rfl)) dX6_putTwo_6 ⟨(Nat.le_of_ble_eq_true rfl), (Nat.le_of_ble_eq_true rfl)⟩) hP hD hS hA [0, 1] rfl rfl [.inr 0, .inr 1] rfl rfl (fun H locs hP hD hS => ?_)
  refine lv_aload_n hx hb dX6_putTwo_9 rfl (lv_at hl 0 rfl) ?_
  refine lv_iload_n hx hb dX6_putTwo_10 rfl (lv_at hl 1 rfl) ?_
  refine lv_bipush (v := (8 : Int32)) hx hb dX6_putTwo_11 (by decide) ?_
  refine lv_ishr hx hb dX6_putTwo_13 ?_
  obtain ⟨u2, hu2, h⟩ := bnd_some h
  have hPc := hP.sub (ws' := (wdX6_put G a_t a_t_row t_address t_master u1.1 t_nextNumber u1.2)) [0, 1] rfl
  have hDc := hD.sub (ws' := (wdX6_put G a_t a_t_row t_address t_master u1.1 t_nextNumber u1.2)) [0, 1] (by decide) rfl
  refine g_v (wc := (wdX6_put G a_t a_t_row t_address t_master u1.1 t_nextNumber u1.2)) (w1 := (wdX6_put G a_t a_t_row t_address t_master u2.1 t_nextNumber u2.2)) (w2 := (wdX6_putTwo G a_t a_t_row t_address t_master u2.1 t_nextNumber u2.2)) (va_runV (As := [.int (x1 >>> ((8 : Int32) &&& 31))]) (rest := []) ⟨hx, hb, hml, hown, hts⟩ (mX6_put l G a_t a_t_row t_address t_master t_nextNumber (x1 >>> ((8 : Int32) &&& 31)) u1.1 u1.2 H.size u2 hu2) ⟨(callB_of 1 hts (bgIn kw494) rfl rfl rfl (hB _ kw51) (hB _ kw491) hdX6_put ⟨(Nat.le_of_ble_eq_true rfl), (Nat.le_of_ble_eq_true rfl)⟩), hB _ kw493, hB _ kw11⟩ (gPreV (ci := 6) (qr := 0) hK hPc hDc rfl rfl rfl) rfl rfl hl.1 rfl (lv_room (Nat.le_of_ble_eq_true rfl)) dX6_putTwo_14 ⟨(Nat.le_of_ble_eq_true rfl), (Nat.le_of_ble_eq_true rfl)⟩) hP hD hS hA [0, 1] rfl rfl [.inr 0, .inr 1] rfl rfl (fun H locs hP hD hS => ?_)
  obtain rfl := Option.some.inj h
  exact W.vret hx hb hr (fun t ht hW => ⟨⟨(), rfl, trivial, by rw [ht]; exact hP, hD⟩, hS.F ht⟩) hS.2.2 dX6_putTwo_17
set_option maxHeartbeats 4000000 in
set_option maxRecDepth 100000 in
theorem mX6_putTwo (l : Launch) (G : GT) (a_t : Nat) (a_t_row : Nat) (t_address : Int32) (t_master : Int32) (t_nextNumber : Int32) (x1 : Int32) (t_length : Int32) (t_row : Nat → Int32) (sz : Nat) (out : Int32 × (Nat → Int32)) (h : fX6_putTwo x1 t_length t_row = some out) : Met l yX6_putTwo wsX6_putTwo rmX6_putTwo (gPc G [.ref a_t, .int x1] sz (wdX6_putTwo G a_t a_t_row t_address t_master t_length t_nextNumber t_row)) (gQv G (va_A (wdX6_putTwo G a_t a_t_row t_address t_master t_length t_nextNumber t_row) sz) (wdX6_putTwo G a_t a_t_row t_address t_master out.1 t_nextNumber out.2)) 0 0 (va_A (wdX6_putTwo G a_t a_t_row t_address t_master t_length t_nextNumber t_row) sz) := by
  refine Met.ofW (cc := cX6_putTwo) (maxL := 2) (ret := none) (by decide) rfl ?_
  intro p e s m args below meth c s₁ B hml hv
  obtain ⟨rfl, hsz, hP, hK, hD0⟩ := hv
  have hts := atoms_spec (ws := wsX6_putTwo) B.pre
  have hown : s.vm.findClass "OutStation$Outgoing" = some m.cls := findClass_of_methodNamed B.named
  subst hsz
  have hD := hD0.self (sz := s.heap.size)
  generalize hAe : va_A (wdX6_putTwo G a_t a_t_row t_address t_master t_length t_nextNumber t_row) s.heap.size = A at hD ⊢
  have hA : ∀ q : Nat, s.heap.size ≤ q → A q := fun q h => by rw [← hAe]; exact Or.inr h
  have hS : va_S A s.heap s.heap [] := va_S.rf
  have hl := lv_entry ([.ref a_t, .int x1]) (n := 2) (Nat.le_of_ble_eq_true rfl)
  rw [lg_entry_eq]
  generalize (lg_sl ([.ref a_t, .int x1]) ++ List.replicate (2 - (lg_sl ([.ref a_t, .int x1])).length) Slot.unset).toArray = ls at hl ⊢
  exact wX6_putTwo_E ⟨B.exec, B.bytes, B.returns, hml, hown, hts, B.notSynchronized, hA, hK⟩ x1 t_length t_row _ _ _ h hP hD hS hl
/-! ### OutStation$Outgoing.putHead (II)V -/
abbrev wdX6_putHead (G : GT) (a_t : Nat) (a_t_row : Nat) (t_address : Int32) (t_master : Int32) (t_length : Int32) (t_nextNumber : Int32) (t_row : Nat → Int32) : va_W := [(a_t, .inr (6, [.int t_address, .int t_master, .ref a_t_row, .int t_length, .int t_nextNumber])), (a_t_row, .inl (G.2.1, 4000, .inl t_row))]
abbrev wsX6_putHead : List Cond := .code yX6_putHead cX6_putHead 4 none :: BG
abbrev rmX6_putHead : Room := { frames := 2, cells := 0, slots := 0, locals := 47 }
noncomputable def fX6_putHead (t_address : Int32) (t_master : Int32) (x1 : Int32) (x2 : Int32) (t_length : Int32) (t_row : Nat → Int32) : Option (Int32 × (Nat → Int32)) := bnd (fX6_put (5 : Int32) t_length t_row) (fun u1 => bnd (fX6_put (100 : Int32) u1.1 u1.2) (fun u2 => bnd (fX6_put ((5 : Int32) + x2) u2.1 u2.2) (fun u3 => bnd (fX6_put x1 u3.1 u3.2) (fun u4 => bnd (fX6_putTwo t_master u4.1 u4.2) (fun u5 => bnd (fX6_putTwo t_address u5.1 u5.2) (fun u6 => bnd (fX9_checkOf 4000 u6.2 t_length u6.1) (fun u7 => bnd (fX6_putTwo u7 u6.1 u6.2) (fun u8 => some (u8.1, u8.2)))))))))
set_option maxHeartbeats 4000000 in
set_option maxRecDepth 100000 in
theorem wX6_putHead_E {p : Program} {l : Launch} {e : Env} {s : State} {m : MethodId} {args : Array Value} {below : List Frame} {meth : Method} {c : Code} {G : GT} {A : Nat → Prop} (C : cxt p s m args meth c cX6_putHead none 4 "OutStation$Outgoing" wsX6_putHead G A) {a_t : Nat} {a_t_row : Nat} {t_address : Int32} {t_master : Int32} {t_nextNumber : Int32} {out : Int32 × (Nat → Int32)} : ∀ (x1 : Int32) (x2 : Int32) (t_length : Int32) (t_row : Nat → Int32) (H : Heap) (locs : List Loc) (ls : Array Slot), fX6_putHead t_address t_master x1 x2 t_length t_row = some out → va_P G.1 vwCl (wdX6_putHead G a_t a_t_row t_address t_master t_length t_nextNumber t_row) H → va_D A (wdX6_putHead G a_t a_t_row t_address t_master t_length t_nextNumber t_row) → va_S A s.heap H locs → lv_has ls 4 [(0, .ref a_t), (1, .int x1), (2, .int x2)] → W p l e rmX6_putHead s m args below meth c H locs 0 0 (MQ below (gQv G A (wdX6_putHead G a_t a_t_row t_address t_master out.1 t_nextNumber out.2)) args s 0 0 A) (F0 m 0 ls []) := by
  obtain ⟨hx, hb, hr, hml, hown, hts, hlocks, hA, hK⟩ := id C
  have hB : ∀ w ∈ BG, w.before args s = true := fun w h => hts w (List.mem_cons_of_mem _ h)
  intro x1 x2 t_length t_row H locs ls h hP hD hS hl
  unfold fX6_putHead at h
  refine lv_aload_n hx hb dX6_putHead_0 rfl (lv_at hl 0 rfl) ?_
  refine va_get (D := G.1) (ci := 6) (v := .int t_length) (C := RX6) (T := TX6) (N := 5) hx hb hB iX6 hown hK.1 hP 0 rfl rfl 3 (by decide) (hB _ kw177) (fun _ h9 => h9) rfl dX6_putHead_1 ?_
  refine lv_istore_n (lv' := [(3, .int t_length), (0, .ref a_t), (1, .int x1), (2, .int x2)]) hx hb dX6_putHead_4 rfl hl (by decide) rfl (fun ls hl => ?_)
  refine lv_aload_n hx hb dX6_putHead_5 rfl (lv_at hl 1 rfl) ?_
  refine lv_iconst (v := (5 : Int32)) hx hb dX6_putHead_6 (by decide) ?_
  obtain ⟨u1, hu1, h⟩ := bnd_some h
  have hPc := hP.sub (ws' := (wdX6_put G a_t a_t_row t_address t_master t_length t_nextNumber t_row)) [0, 1] rfl
  have hDc := hD.sub (ws' := (wdX6_put G a_t a_t_row t_address t_master t_length t_nextNumber t_row)) [0, 1] (by decide) rfl
  refine g_v (wc := (wdX6_put G a_t a_t_row t_address t_master t_length t_nextNumber t_row)) (w1 := (wdX6_put G a_t a_t_row t_address t_master u1.1 t_nextNumber u1.2)) (w2 := (wdX6_putHead G a_t a_t_row t_address t_master u1.1 t_nextNumber u1.2)) (va_runV (As := [.int (5 : Int32)]) (rest := []) ⟨hx, hb, hml, hown, hts⟩ (mX6_put l G a_t a_t_row t_address t_master t_nextNumber (5 : Int32) t_length t_row H.size u1 hu1) ⟨(callB_of 1 hts (bgIn kw494) rfl rfl rfl (hB _ kw51) (hB _ kw491) hdX6_put ⟨(Nat.le_of_ble_eq_true rfl), (Nat.le_of_ble_eq_true rfl)⟩), hB _ kw493, hB _ kw11⟩ (gPreV (ci := 6) (qr := 0) hK hPc hDc rfl rfl rfl) rfl rfl hl.1 rfl (lv_room (Nat.le_of_ble_eq_true rfl)) dX6_putHead_7 ⟨(Nat.le_of_ble_eq_true rfl), (Nat.le_of_ble_eq_true rfl)⟩) hP hD hS hA [0, 1] rfl rfl [.inr 0, .inr 1] rfl rfl (fun H locs hP hD hS => ?_)
  refine lv_aload_n hx hb dX6_putHead_10 rfl (lv_at hl 1 rfl) ?_
  refine lv_bipush (v := (100 : Int32)) hx hb dX6_putHead_11 (by decide) ?_
  obtain ⟨u2, hu2, h⟩ := bnd_some h
  have hPc := hP.sub (ws' := (wdX6_put G a_t a_t_row t_address t_master u1.1 t_nextNumber u1.2)) [0, 1] rfl
  have hDc := hD.sub (ws' := (wdX6_put G a_t a_t_row t_address t_master u1.1 t_nextNumber u1.2)) [0, 1] (by decide) rfl
  refine g_v (wc := (wdX6_put G a_t a_t_row t_address t_master u1.1 t_nextNumber u1.2)) (w1 := (wdX6_put G a_t a_t_row t_address t_master u2.1 t_nextNumber u2.2)) (w2 := (wdX6_putHead G a_t a_t_row t_address t_master u2.1 t_nextNumber u2.2)) (va_runV (As := [.int (100 : Int32)]) (rest := []) ⟨hx, hb, hml, hown, hts⟩ (mX6_put l G a_t a_t_row t_address t_master t_nextNumber (100 : Int32) u1.1 u1.2 H.size u2 hu2) ⟨(callB_of 1 hts (bgIn kw494) rfl rfl rfl (hB _ kw51) (hB _ kw491) hdX6_put ⟨(Nat.le_of_ble_eq_true rfl), (Nat.le_of_ble_eq_true rfl)⟩), hB _ kw493, hB _ kw11⟩ (gPreV (ci := 6) (qr := 0) hK hPc hDc rfl rfl rfl) rfl rfl hl.1 rfl (lv_room (Nat.le_of_ble_eq_true rfl)) dX6_putHead_13 ⟨(Nat.le_of_ble_eq_true rfl), (Nat.le_of_ble_eq_true rfl)⟩) hP hD hS hA [0, 1] rfl rfl [.inr 0, .inr 1] rfl rfl (fun H locs hP hD hS => ?_)
  refine lv_aload_n hx hb dX6_putHead_16 rfl (lv_at hl 1 rfl) ?_
  refine lv_iconst (v := (5 : Int32)) hx hb dX6_putHead_17 (by decide) ?_
  refine lv_iload_n hx hb dX6_putHead_18 rfl (lv_at hl 3 rfl) ?_
  refine lv_iadd hx hb dX6_putHead_19 ?_
  obtain ⟨u3, hu3, h⟩ := bnd_some h
  have hPc := hP.sub (ws' := (wdX6_put G a_t a_t_row t_address t_master u2.1 t_nextNumber u2.2)) [0, 1] rfl
  have hDc := hD.sub (ws' := (wdX6_put G a_t a_t_row t_address t_master u2.1 t_nextNumber u2.2)) [0, 1] (by decide) rfl
  refine g_v (wc := (wdX6_put G a_t a_t_row t_address t_master u2.1 t_nextNumber u2.2)) (w1 := (wdX6_put G a_t a_t_row t_address t_master u3.1 t_nextNumber u3.2)) (w2 := (wdX6_putHead G a_t a_t_row t_address t_master u3.1 t_nextNumber u3.2)) (va_runV (As := [.int ((5 : Int32) + x2)]) (rest := []) ⟨hx, hb, hml, hown, hts⟩ (mX6_put l G a_t a_t_row t_address t_master t_nextNumber ((5 : Int32) + x2) u2.1 u2.2 H.size u3 hu3) ⟨(callB_of 1 hts (bgIn kw494) rfl rfl rfl (hB _ kw51) (hB _ kw491) hdX6_put ⟨(Nat.le_of_ble_eq_true rfl), (Nat.le_of_ble_eq_true rfl)⟩), hB _ kw493, hB _ kw11⟩ (gPreV (ci := 6) (qr := 0) hK hPc hDc rfl rfl rfl) rfl rfl hl.1 rfl (lv_room (Nat.le_of_ble_eq_true rfl)) dX6_putHead_20 ⟨(Nat.le_of_ble_eq_true rfl), (Nat.le_of_ble_eq_true rfl)⟩) hP hD hS hA [0, 1] rfl rfl [.inr 0, .inr 1] rfl rfl (fun H locs hP hD hS => ?_)
  refine lv_aload_n hx hb dX6_putHead_23 rfl (lv_at hl 1 rfl) ?_
  refine lv_iload_n hx hb dX6_putHead_24 rfl (lv_at hl 2 rfl) ?_
  obtain ⟨u4, hu4, h⟩ := bnd_some h
  have hPc := hP.sub (ws' := (wdX6_put G a_t a_t_row t_address t_master u3.1 t_nextNumber u3.2)) [0, 1] rfl
  have hDc := hD.sub (ws' := (wdX6_put G a_t a_t_row t_address t_master u3.1 t_nextNumber u3.2)) [0, 1] (by decide) rfl
  refine g_v (wc := (wdX6_put G a_t a_t_row t_address t_master u3.1 t_nextNumber u3.2)) (w1 := (wdX6_put G a_t a_t_row t_address t_master u4.1 t_nextNumber u4.2)) (w2 := (wdX6_putHead G a_t a_t_row t_address t_master u4.1 t_nextNumber u4.2)) (va_runV (As := [.int x1]) (rest := []) ⟨hx, hb, hml, hown, hts⟩ (mX6_put l G a_t a_t_row t_address t_master t_nextNumber x1 u3.1 u3.2 H.size u4 hu4) ⟨(callB_of 1 hts (bgIn kw494) rfl rfl rfl (hB _ kw51) (hB _ kw491) hdX6_put ⟨(Nat.le_of_ble_eq_true rfl), (Nat.le_of_ble_eq_true rfl)⟩), hB _ kw493, hB _ kw11⟩ (gPreV (ci := 6) (qr := 0) hK hPc hDc rfl rfl rfl) rfl rfl hl.1 rfl (lv_room (Nat.le_of_ble_eq_true rfl)) dX6_putHead_25 ⟨(Nat.le_of_ble_eq_true rfl), (Nat.le_of_ble_eq_true rfl)⟩) hP hD hS hA [0, 1] rfl rfl [.inr 0, .inr 1] rfl rfl (fun H locs hP hD hS => ?_)
  refine lv_aload_n hx hb dX6_putHead_28 rfl (lv_at hl 1 rfl) ?_
  refine lv_aload_n hx hb dX6_putHead_29 rfl (lv_at hl 1 rfl) ?_
  refine va_get (D := G.1) (ci := 6) (v := .int t_master) (C := RX6) (T := TX6) (N := 5) hx hb hB iX6 hown hK.1 hP 0 rfl rfl 1 (by decide) (hB _ kw175) (fun _ h9 => h9) rfl dX6_putHead_30 ?_
  obtain ⟨u5, hu5, h⟩ := bnd_some h
  have hPc := hP.sub (ws' := (wdX6_putTwo G a_t a_t_row t_address t_master u4.1 t_nextNumber u4.2)) [0, 1] rfl
  have hDc := hD.sub (ws' := (wdX6_putTwo G a_t a_t_row t_address t_master u4.1 t_nextNumber u4.2)) [0, 1] (by decide) rfl
  refine g_v (wc := (wdX6_putTwo G a_t a_t_row t_address t_master u4.1 t_nextNumber u4.2)) (w1 := (wdX6_putTwo G a_t a_t_row t_address t_master u5.1 t_nextNumber u5.2)) (w2 := (wdX6_putHead G a_t a_t_row t_address t_master u5.1 t_nextNumber u5.2)) (va_runV (As := [.int t_master]) (rest := []) ⟨hx, hb, hml, hown, hts⟩ (mX6_putTwo l G a_t a_t_row t_address t_master t_nextNumber t_master u4.1 u4.2 H.size u5 hu5) ⟨(callB_of 1 hts (bgIn kw498) rfl rfl rfl (hB _ kw51) (hB _ kw495) hdX6_putTwo ⟨(Nat.le_of_ble_eq_true rfl), (Nat.le_of_ble_eq_true rfl)⟩), hB _ kw497, hB _ kw12⟩ (gPreV (ci := 6) (qr := 0) hK hPc hDc rfl rfl rfl) rfl rfl hl.1 rfl (lv_room (Nat.le_of_ble_eq_true rfl)) dX6_putHead_33 ⟨(Nat.le_of_ble_eq_true rfl), (Nat.le_of_ble_eq_true rfl)⟩) hP hD hS hA [0, 1] rfl rfl [.inr 0, .inr 1] rfl rfl (fun H locs hP hD hS => ?_)
  refine lv_aload_n hx hb dX6_putHead_36 rfl (lv_at hl 1 rfl) ?_
  refine lv_aload_n hx hb dX6_putHead_37 rfl (lv_at hl 1 rfl) ?_
  refine va_get (D := G.1) (ci := 6) (v := .int t_address) (C := RX6) (T := TX6) (N := 5) hx hb hB iX6 hown hK.1 hP 0 rfl rfl 0 (by decide) (hB _ kw174) (fun _ h9 => h9) rfl dX6_putHead_38 ?_
  obtain ⟨u6, hu6, h⟩ := bnd_some h
  have hPc := hP.sub (ws' := (wdX6_putTwo G a_t a_t_row t_address t_master u5.1 t_nextNumber u5.2)) [0, 1] rfl
  have hDc := hD.sub (ws' := (wdX6_putTwo G a_t a_t_row t_address t_master u5.1 t_nextNumber u5.2)) [0, 1] (by decide) rfl
  refine g_v (wc := (wdX6_putTwo G a_t a_t_row t_address t_master u5.1 t_nextNumber u5.2)) (w1 := (wdX6_putTwo G a_t a_t_row t_address t_master u6.1 t_nextNumber u6.2)) (w2 := (wdX6_putHead G a_t a_t_row t_address t_master u6.1 t_nextNumber u6.2)) (va_runV (As := [.int t_address]) (rest := []) ⟨hx, hb, hml, hown, hts⟩ (mX6_putTwo l G a_t a_t_row t_address t_master t_nextNumber t_address u5.1 u5.2 H.size u6 hu6) ⟨(callB_of 1 hts (bgIn kw498) rfl rfl rfl (hB _ kw51) (hB _ kw495) hdX6_putTwo ⟨(Nat.le_of_ble_eq_true rfl), (Nat.le_of_ble_eq_true rfl)⟩), hB _ kw497, hB _ kw12⟩ (gPreV (ci := 6) (qr := 0) hK hPc hDc rfl rfl rfl) rfl rfl hl.1 rfl (lv_room (Nat.le_of_ble_eq_true rfl)) dX6_putHead_41 ⟨(Nat.le_of_ble_eq_true rfl), (Nat.le_of_ble_eq_true rfl)⟩) hP hD hS hA [0, 1] rfl rfl [.inr 0, .inr 1] rfl rfl (fun H locs hP hD hS => ?_)
  refine lv_aload_n hx hb dX6_putHead_44 rfl (lv_at hl 1 rfl) ?_
  refine lv_aload_n hx hb dX6_putHead_45 rfl (lv_at hl 1 rfl) ?_
  refine va_get (D := G.1) (ci := 6) (v := .ref a_t_row) (C := RX6) (T := TX6) (N := 5) hx hb hB iX6 hown hK.1 hP 0 rfl rfl 2 (by decide) (hB _ kw176) (fun _ h9 => h9) rfl dX6_putHead_46 ?_
  refine lv_iload_n hx hb dX6_putHead_49 rfl (lv_at hl 0 rfl) ?_
  refine lv_aload_n hx hb dX6_putHead_50 rfl (lv_at hl 1 rfl) ?_
  refine va_get (D := G.1) (ci := 6) (v := .int u6.1) (C := RX6) (T := TX6) (N := 5) hx hb hB iX6 hown hK.1 hP 0 rfl rfl 3 (by decide) (hB _ kw177) (fun _ h9 => h9) rfl dX6_putHead_51 ?_
  obtain ⟨u7, hu7, h⟩ := bnd_some h
  have hPc := hP.sub (ws' := (wdX9_checkOf G a_t_row 4000 u6.2)) [1] rfl
  have hDc := hD.sub (ws' := (wdX9_checkOf G a_t_row 4000 u6.2)) [1] (by decide) rfl
  refine g_i (wc := (wdX9_checkOf G a_t_row 4000 u6.2)) (w1 := (wdX9_checkOf G a_t_row 4000 u6.2)) (w2 := (wdX6_putHead G a_t a_t_row t_address t_master u6.1 t_nextNumber u6.2)) (va_runSN (As := [.ref a_t_row, .int t_length, .int u6.1]) (rest := [.ref a_t]) ⟨hx, hb, hml, hown, hts⟩ (mX9_checkOf l G a_t_row 4000 u6.2 t_length u6.1 H.size u7 hu7) ⟨(va_cnB 3 hts (bgIn kw438) rfl rfl rfl (hK.2.1 ("OutStation$Outgoing", 70, yX9_checkOf, "OutStation") (by decide +kernel)) (hB _ kw46) hdX9_checkOf ⟨(Nat.le_of_ble_eq_true rfl), (Nat.le_of_ble_eq_true rfl)⟩), hB _ kw437, trivial⟩ (gPreS hK hPc hDc) rfl rfl hl.1 rfl (lv_room (Nat.le_of_ble_eq_true rfl)) dX6_putHead_54 ⟨(Nat.le_of_ble_eq_true rfl), (Nat.le_of_ble_eq_true rfl)⟩) hP hD hS hA [1] rfl rfl [.inl 0, .inr 0] rfl rfl (fun H locs hP hD hS => ?_)
  obtain ⟨u8, hu8, h⟩ := bnd_some h
  have hPc := hP.sub (ws' := (wdX6_putTwo G a_t a_t_row t_address t_master u6.1 t_nextNumber u6.2)) [0, 1] rfl
  have hDc := hD.sub (ws' := (wdX6_putTwo G a_t a_t_row t_address t_master u6.1 t_nextNumber u6.2)) [0, 1] (by decide) rfl
  refine g_v (wc := (wdX6_putTwo G a_t a_t_row t_address t_master u6.1 t_nextNumber u6.2)) (w1 := (wdX6_putTwo G a_t a_t_row t_address t_master u8.1 t_nextNumber u8.2)) (w2 := (wdX6_putHead G a_t a_t_row t_address t_master u8.1 t_nextNumber u8.2)) (va_runV (As := [.int u7]) (rest := []) ⟨hx, hb, hml, hown, hts⟩ (mX6_putTwo l G a_t a_t_row t_address t_master t_nextNumber u7 u6.1 u6.2 H.size u8 hu8) ⟨(callB_of 1 hts (bgIn kw498) rfl rfl rfl (hB _ kw51) (hB _ kw495) hdX6_putTwo ⟨(Nat.le_of_ble_eq_true rfl), (Nat.le_of_ble_eq_true rfl)⟩), hB _ kw497, hB _ kw12⟩ (gPreV (ci := 6) (qr := 0) hK hPc hDc rfl rfl rfl) rfl rfl hl.1 rfl (lv_room (Nat.le_of_ble_eq_true rfl)) dX6_putHead_57 ⟨(Nat.le_of_ble_eq_true rfl), (Nat.le_of_ble_eq_true rfl)⟩) hP hD hS hA [0, 1] rfl rfl [.inr 0, .inr 1] rfl rfl (fun H locs hP hD hS => ?_)
  obtain rfl := Option.some.inj h
  exact W.vret hx hb hr (fun t ht hW => ⟨⟨(), rfl, trivial, by rw [ht]; exact hP, hD⟩, hS.F ht⟩) hS.2.2 dX6_putHead_60
set_option maxHeartbeats 4000000 in
set_option maxRecDepth 100000 in
theorem mX6_putHead (l : Launch) (G : GT) (a_t : Nat) (a_t_row : Nat) (t_address : Int32) (t_master : Int32) (t_nextNumber : Int32) (x1 : Int32) (x2 : Int32) (t_length : Int32) (t_row : Nat → Int32) (sz : Nat) (out : Int32 × (Nat → Int32)) (h : fX6_putHead t_address t_master x1 x2 t_length t_row = some out) : Met l yX6_putHead wsX6_putHead rmX6_putHead (gPc G [.ref a_t, .int x1, .int x2] sz (wdX6_putHead G a_t a_t_row t_address t_master t_length t_nextNumber t_row)) (gQv G (va_A (wdX6_putHead G a_t a_t_row t_address t_master t_length t_nextNumber t_row) sz) (wdX6_putHead G a_t a_t_row t_address t_master out.1 t_nextNumber out.2)) 0 0 (va_A (wdX6_putHead G a_t a_t_row t_address t_master t_length t_nextNumber t_row) sz) := by
  refine Met.ofW (cc := cX6_putHead) (maxL := 4) (ret := none) (by decide) rfl ?_
  intro p e s m args below meth c s₁ B hml hv
  obtain ⟨rfl, hsz, hP, hK, hD0⟩ := hv
  have hts := atoms_spec (ws := wsX6_putHead) B.pre
  have hown : s.vm.findClass "OutStation$Outgoing" = some m.cls := findClass_of_methodNamed B.named
  subst hsz
  have hD := hD0.self (sz := s.heap.size)
  generalize hAe : va_A (wdX6_putHead G a_t a_t_row t_address t_master t_length t_nextNumber t_row) s.heap.size = A at hD ⊢
  have hA : ∀ q : Nat, s.heap.size ≤ q → A q := fun q h => by rw [← hAe]; exact Or.inr h
  have hS : va_S A s.heap s.heap [] := va_S.rf
  have hl := lv_entry ([.ref a_t, .int x1, .int x2]) (n := 4) (Nat.le_of_ble_eq_true rfl)
  rw [lg_entry_eq]
  generalize (lg_sl ([.ref a_t, .int x1, .int x2]) ++ List.replicate (4 - (lg_sl ([.ref a_t, .int x1, .int x2])).length) Slot.unset).toArray = ls at hl ⊢
  exact wX6_putHead_E ⟨B.exec, B.bytes, B.returns, hml, hown, hts, B.notSynchronized, hA, hK⟩ x1 x2 t_length t_row _ _ _ h hP hD hS hl
/-! ### OutStation$Outgoing.sendReply (I)V -/
abbrev wdX6_sendReply (G : GT) (a_t : Nat) (a_t_row : Nat) (t_address : Int32) (t_master : Int32) (t_length : Int32) (t_nextNumber : Int32) (t_row : Nat → Int32) : va_W := [(a_t, .inr (6, [.int t_address, .int t_master, .ref a_t_row, .int t_length, .int t_nextNumber])), (a_t_row, .inl (G.2.1, 4000, .inl t_row))]
abbrev wsX6_sendReply : List Cond := .code yX6_sendReply cX6_sendReply 2 none :: BG
abbrev rmX6_sendReply : Room := { frames := 3, cells := 0, slots := 0, locals := 70 }
noncomputable def fX6_sendReply_L14 (t_address : Int32) (t_master : Int32) (t_length : Int32) (t_row : Nat → Int32) : Option (Int32 × (Nat → Int32)) := some (t_length, t_row)
set_option maxHeartbeats 4000000 in
set_option maxRecDepth 100000 in
theorem wX6_sendReply_L14 {p : Program} {l : Launch} {e : Env} {s : State} {m : MethodId} {args : Array Value} {below : List Frame} {meth : Method} {c : Code} {G : GT} {A : Nat → Prop} (C : cxt p s m args meth c cX6_sendReply none 2 "OutStation$Outgoing" wsX6_sendReply G A) {a_t : Nat} {a_t_row : Nat} {t_address : Int32} {t_master : Int32} {t_nextNumber : Int32} {out : Int32 × (Nat → Int32)} : ∀ (t_length : Int32) (t_row : Nat → Int32) (H : Heap) (locs : List Loc) (ls : Array Slot), fX6_sendReply_L14 t_address t_master t_length t_row = some out → va_P G.1 vwCl (wdX6_sendReply G a_t a_t_row t_address t_master t_length t_nextNumber t_row) H → va_D A (wdX6_sendReply G a_t a_t_row t_address t_master t_length t_nextNumber t_row) → va_S A s.heap H locs → lv_has ls 2 [] → W p l e rmX6_sendReply s m args below meth c H locs 0 0 (MQ below (gQv G A (wdX6_sendReply G a_t a_t_row t_address t_master out.1 t_nextNumber out.2)) args s 0 0 A) (F0 m 14 ls []) := by
  obtain ⟨hx, hb, hr, hml, hown, hts, hlocks, hA, hK⟩ := id C
  have hB : ∀ w ∈ BG, w.before args s = true := fun w h => hts w (List.mem_cons_of_mem _ h)
  intro t_length t_row H locs ls h hP hD hS hl
  unfold fX6_sendReply_L14 at h
  obtain rfl := Option.some.inj h
  exact W.vret hx hb hr (fun t ht hW => ⟨⟨(), rfl, trivial, by rw [ht]; exact hP, hD⟩, hS.F ht⟩) hS.2.2 dX6_sendReply_14
noncomputable def fX6_sendReply (t_address : Int32) (t_master : Int32) (x1 : Int32) (t_length : Int32) (t_row : Nat → Int32) : Option (Int32 × (Nat → Int32)) := bnd (fX6_hasRoomFor t_length (0 : Int32)) (fun u1 => brc (u1 = 0) (fX6_sendReply_L14 t_address t_master t_length t_row) (bnd (fX6_putHead t_address t_master x1 (0 : Int32) t_length t_row) (fun u2 => fX6_sendReply_L14 t_address t_master u2.1 u2.2)))
set_option maxHeartbeats 4000000 in
set_option maxRecDepth 100000 in
theorem wX6_sendReply_E {p : Program} {l : Launch} {e : Env} {s : State} {m : MethodId} {args : Array Value} {below : List Frame} {meth : Method} {c : Code} {G : GT} {A : Nat → Prop} (C : cxt p s m args meth c cX6_sendReply none 2 "OutStation$Outgoing" wsX6_sendReply G A) {a_t : Nat} {a_t_row : Nat} {t_address : Int32} {t_master : Int32} {t_nextNumber : Int32} {out : Int32 × (Nat → Int32)} : ∀ (x1 : Int32) (t_length : Int32) (t_row : Nat → Int32) (H : Heap) (locs : List Loc) (ls : Array Slot), fX6_sendReply t_address t_master x1 t_length t_row = some out → va_P G.1 vwCl (wdX6_sendReply G a_t a_t_row t_address t_master t_length t_nextNumber t_row) H → va_D A (wdX6_sendReply G a_t a_t_row t_address t_master t_length t_nextNumber t_row) → va_S A s.heap H locs → lv_has ls 2 [(0, .ref a_t), (1, .int x1)] → W p l e rmX6_sendReply s m args below meth c H locs 0 0 (MQ below (gQv G A (wdX6_sendReply G a_t a_t_row t_address t_master out.1 t_nextNumber out.2)) args s 0 0 A) (F0 m 0 ls []) := by
  obtain ⟨hx, hb, hr, hml, hown, hts, hlocks, hA, hK⟩ := id C
  have hB : ∀ w ∈ BG, w.before args s = true := fun w h => hts w (List.mem_cons_of_mem _ h)
  intro x1 t_length t_row H locs ls h hP hD hS hl
  unfold fX6_sendReply at h
  refine lv_aload_n hx hb dX6_sendReply_0 rfl (lv_at hl 0 rfl) ?_
  refine lv_iconst (v := (0 : Int32)) hx hb dX6_sendReply_1 (by decide) ?_
  obtain ⟨u1, hu1, h⟩ := bnd_some h
  have hPc := hP.sub (ws' := (wdX6_hasRoomFor G a_t a_t_row t_address t_master t_length t_nextNumber)) [0] rfl
  have hDc := hD.sub (ws' := (wdX6_hasRoomFor G a_t a_t_row t_address t_master t_length t_nextNumber)) [0] (by decide) rfl
  refine g_i (wc := (wdX6_hasRoomFor G a_t a_t_row t_address t_master t_length t_nextNumber)) (w1 := (wdX6_hasRoomFor G a_t a_t_row t_address t_master t_length t_nextNumber)) (w2 := (wdX6_sendReply G a_t a_t_row t_address t_master t_length t_nextNumber t_row)) (va_runV (As := [.int (0 : Int32)]) (rest := []) ⟨hx, hb, hml, hown, hts⟩ (mX6_hasRoomFor l G a_t a_t_row t_address t_master t_length t_nextNumber (0 : Int32) H.size u1 hu1) ⟨(callB_of 1 hts (bgIn kw485) rfl rfl rfl (hB _ kw51) (hB _ kw482) hdX6_hasRoomFor ⟨(Nat.le_of_ble_eq_true rfl), (Nat.le_of_ble_eq_true rfl)⟩), hB _ kw484, hB _ kw9⟩ (gPreV (ci := 6) (qr := 0) hK hPc hDc rfl rfl rfl) rfl rfl hl.1 rfl (lv_room (Nat.le_of_ble_eq_true rfl)) dX6_sendReply_2 ⟨(Nat.le_of_ble_eq_true rfl), (Nat.le_of_ble_eq_true rfl)⟩) hP hD hS hA [0] rfl rfl [.inr 0, .inl 1] rfl rfl (fun H locs hP hD hS => ?_)
  refine lv_if_eq (tgt := 14) hx hb dX6_sendReply_5 (by decide) (fun hc5 => ?_) (fun hc5 => ?_)
  · have h := brc_tt h hc5
    exact wX6_sendReply_L14 C t_length t_row _ _ _ h hP hD hS (lv_sub hl [] rfl)
  · have h := brc_ff h hc5
    refine lv_aload_n hx hb dX6_sendReply_8 rfl (lv_at hl 0 rfl) ?_
    refine lv_iload_n hx hb dX6_sendReply_9 rfl (lv_at hl 1 rfl) ?_
    refine lv_iconst (v := (0 : Int32)) hx hb dX6_sendReply_10 (by decide) ?_
    obtain ⟨u2, hu2, h⟩ := bnd_some h
    have hPc := hP.sub (ws' := (wdX6_putHead G a_t a_t_row t_address t_master t_length t_nextNumber t_row)) [0, 1] rfl
    have hDc := hD.sub (ws' := (wdX6_putHead G a_t a_t_row t_address t_master t_length t_nextNumber t_row)) [0, 1] (by decide) rfl
    refine g_v (wc := (wdX6_putHead G a_t a_t_row t_address t_master t_length t_nextNumber t_row)) (w1 := (wdX6_putHead G a_t a_t_row t_address t_master u2.1 t_nextNumber u2.2)) (w2 := (wdX6_sendReply G a_t a_t_row t_address t_master u2.1 t_nextNumber u2.2)) (va_runV (As := [.int x1, .int (0 : Int32)]) (rest := []) ⟨hx, hb, hml, hown, hts⟩ (mX6_putHead l G a_t a_t_row t_address t_master t_nextNumber x1 (0 : Int32) t_length t_row H.size u2 hu2) ⟨(callB_of 2 hts (bgIn kw490) rfl rfl rfl (hB _ kw51) (hB _ kw487) hdX6_putHead ⟨(Nat.le_of_ble_eq_true rfl), (Nat.le_of_ble_eq_true rfl)⟩), hB _ kw489, hB _ kw10⟩ (gPreV (ci := 6) (qr := 0) hK hPc hDc rfl rfl rfl) rfl rfl hl.1 rfl (lv_room (Nat.le_of_ble_eq_true rfl)) dX6_sendReply_11 ⟨(Nat.le_of_ble_eq_true rfl), (Nat.le_of_ble_eq_true rfl)⟩) hP hD hS hA [0, 1] rfl rfl [.inr 0, .inr 1] rfl rfl (fun H locs hP hD hS => ?_)
    exact wX6_sendReply_L14 C u2.1 u2.2 _ _ _ h hP hD hS (lv_sub hl [] rfl)
set_option maxHeartbeats 4000000 in
set_option maxRecDepth 100000 in
theorem mX6_sendReply (l : Launch) (G : GT) (a_t : Nat) (a_t_row : Nat) (t_address : Int32) (t_master : Int32) (t_nextNumber : Int32) (x1 : Int32) (t_length : Int32) (t_row : Nat → Int32) (sz : Nat) (out : Int32 × (Nat → Int32)) (h : fX6_sendReply t_address t_master x1 t_length t_row = some out) : Met l yX6_sendReply wsX6_sendReply rmX6_sendReply (gPc G [.ref a_t, .int x1] sz (wdX6_sendReply G a_t a_t_row t_address t_master t_length t_nextNumber t_row)) (gQv G (va_A (wdX6_sendReply G a_t a_t_row t_address t_master t_length t_nextNumber t_row) sz) (wdX6_sendReply G a_t a_t_row t_address t_master out.1 t_nextNumber out.2)) 0 0 (va_A (wdX6_sendReply G a_t a_t_row t_address t_master t_length t_nextNumber t_row) sz) := by
  refine Met.ofW (cc := cX6_sendReply) (maxL := 2) (ret := none) (by decide) rfl ?_
  intro p e s m args below meth c s₁ B hml hv
  obtain ⟨rfl, hsz, hP, hK, hD0⟩ := hv
  have hts := atoms_spec (ws := wsX6_sendReply) B.pre
  have hown : s.vm.findClass "OutStation$Outgoing" = some m.cls := findClass_of_methodNamed B.named
  subst hsz
  have hD := hD0.self (sz := s.heap.size)
  generalize hAe : va_A (wdX6_sendReply G a_t a_t_row t_address t_master t_length t_nextNumber t_row) s.heap.size = A at hD ⊢
  have hA : ∀ q : Nat, s.heap.size ≤ q → A q := fun q h => by rw [← hAe]; exact Or.inr h
  have hS : va_S A s.heap s.heap [] := va_S.rf
  have hl := lv_entry ([.ref a_t, .int x1]) (n := 2) (Nat.le_of_ble_eq_true rfl)
  rw [lg_entry_eq]
  generalize (lg_sl ([.ref a_t, .int x1]) ++ List.replicate (2 - (lg_sl ([.ref a_t, .int x1])).length) Slot.unset).toArray = ls at hl ⊢
  exact wX6_sendReply_E ⟨B.exec, B.bytes, B.returns, hml, hown, hts, B.notSynchronized, hA, hK⟩ x1 t_length t_row _ _ _ h hP hD hS hl
/-! ### OutStation$Outgoing.putBlock ([III)V -/
abbrev wdX6_putBlock (G : GT) (a_t : Nat) (a_t_row : Nat) (a_p1 : Nat) (N_p1 : Nat) (t_address : Int32) (t_master : Int32) (t_length : Int32) (t_nextNumber : Int32) (t_row : Nat → Int32) (p1 : Nat → Int32) : va_W := [(a_t, .inr (6, [.int t_address, .int t_master, .ref a_t_row, .int t_length, .int t_nextNumber])), (a_t_row, .inl (G.2.1, 4000, .inl t_row)), (a_p1, .inl (G.2.1, N_p1, .inl p1))]
abbrev wsX6_putBlock : List Cond := .code yX6_putBlock cX6_putBlock 4 none :: BG
abbrev rmX6_putBlock : Room := { frames := 2, cells := 0, slots := 0, locals := 47 }
noncomputable def fX6_putBlock (N_p1 : Nat) (p1 : Nat → Int32) (x2 : Int32) (x3 : Int32) (t_length : Int32) (t_row : Nat → Int32) : Option (Int32 × (Nat → Int32)) := grd (¬ x2 < 0 ∧ ¬ t_length < 0 ∧ ¬ x3 < 0 ∧ ix x2 + ix x3 ≤ N_p1 ∧ ix t_length + ix x3 ≤ 4000) (bnd (fX9_checkOf 4000 (va_cpy p1 t_row (ix x2) (ix t_length) (ix x3)) ((t_length + x3) - x3) (t_length + x3)) (fun u2 => bnd (fX6_putTwo u2 (t_length + x3) (va_cpy p1 t_row (ix x2) (ix t_length) (ix x3))) (fun u3 => some (u3.1, u3.2))))
set_option maxHeartbeats 4000000 in
set_option maxRecDepth 100000 in
theorem wX6_putBlock_E {p : Program} {l : Launch} {e : Env} {s : State} {m : MethodId} {args : Array Value} {below : List Frame} {meth : Method} {c : Code} {G : GT} {A : Nat → Prop} (C : cxt p s m args meth c cX6_putBlock none 4 "OutStation$Outgoing" wsX6_putBlock G A) {a_t : Nat} {a_t_row : Nat} {a_p1 : Nat} {N_p1 : Nat} {t_address : Int32} {t_master : Int32} {t_nextNumber : Int32} {p1 : Nat → Int32} {out : Int32 × (Nat → Int32)} : ∀ (x2 : Int32) (x3 : Int32) (t_length : Int32) (t_row : Nat → Int32) (H : Heap) (locs : List Loc) (ls : Array Slot), fX6_putBlock N_p1 p1 x2 x3 t_length t_row = some out → va_P G.1 vwCl (wdX6_putBlock G a_t a_t_row a_p1 N_p1 t_address t_master t_length t_nextNumber t_row p1) H → va_D A (wdX6_putBlock G a_t a_t_row a_p1 N_p1 t_address t_master t_length t_nextNumber t_row p1) → va_S A s.heap H locs → lv_has ls 4 [(0, .ref a_t), (1, .ref a_p1), (2, .int x2), (3, .int x3)] → W p l e rmX6_putBlock s m args below meth c H locs 0 0 (MQ below (gQv G A (wdX6_putBlock G a_t a_t_row a_p1 N_p1 t_address t_master out.1 t_nextNumber out.2 p1)) args s 0 0 A) (F0 m 0 ls []) := by
  obtain ⟨hx, hb, hr, hml, hown, hts, hlocks, hA, hK⟩ := id C
  have hB : ∀ w ∈ BG, w.before args s = true := fun w h => hts w (List.mem_cons_of_mem _ h)
  intro x2 x3 t_length t_row H locs ls h hP hD hS hl
  unfold fX6_putBlock at h
  refine lv_aload_n hx hb dX6_putBlock_0 rfl (lv_at hl 1 rfl) ?_
  refine lv_iload_n hx hb dX6_putBlock_1 rfl (lv_at hl 2 rfl) ?_
  refine lv_aload_n hx hb dX6_putBlock_2 rfl (lv_at hl 0 rfl) ?_
  refine va_get (D := G.1) (ci := 6) (v := .ref a_t_row) (C := RX6) (T := TX6) (N := 5) hx hb hB iX6 hown hK.1 hP 0 rfl rfl 2 (by decide) (hB _ kw176) (fun _ h9 => h9) rfl dX6_putBlock_3 ?_
  refine lv_aload_n hx hb dX6_putBlock_6 rfl (lv_at hl 0 rfl) ?_
  refine va_get (D := G.1) (ci := 6) (v := .int t_length) (C := RX6) (T := TX6) (N := 5) hx hb hB iX6 hown hK.1 hP 0 rfl rfl 3 (by decide) (hB _ kw177) (fun _ h9 => h9) rfl dX6_putBlock_7 ?_
  refine lv_iload_n hx hb dX6_putBlock_10 rfl (lv_at hl 3 rfl) ?_
  obtain ⟨hg1, h⟩ := grd_some h
  refine va_copyi hx hb (hml.trans hl.1.symm) hown (hB _ kw558) (hB _ kw457) (hB _ kw456) (hB _ kw62) hK.1 hP hD hS 2 1 0 0 rfl rfl rfl rfl rfl hg1.1 hg1.2.1 hg1.2.2.1 hg1.2.2.2.1 hg1.2.2.2.2 (fun _ _ => rfl) (Nat.le_of_ble_eq_true rfl) (Nat.le_of_ble_eq_true rfl) dX6_putBlock_11 (fun H locs hP hD hS => ?_)
  have hP : va_P G.1 vwCl (wdX6_putBlock G a_t a_t_row a_p1 N_p1 t_address t_master t_length t_nextNumber (va_cpy p1 t_row (ix x2) (ix t_length) (ix x3)) p1) H := hP
  have hD : va_D A (wdX6_putBlock G a_t a_t_row a_p1 N_p1 t_address t_master t_length t_nextNumber (va_cpy p1 t_row (ix x2) (ix t_length) (ix x3)) p1) := hD
  refine lv_aload_n hx hb dX6_putBlock_14 rfl (lv_at hl 0 rfl) ?_
  refine lv_dup hx hb dX6_putBlock_15 rfl ?_
  refine va_get (D := G.1) (ci := 6) (v := .int t_length) (C := RX6) (T := TX6) (N := 5) hx hb hB iX6 hown hK.1 hP 0 rfl rfl 3 (by decide) (hB _ kw177) (fun _ h9 => h9) rfl dX6_putBlock_16 ?_
  refine lv_iload_n hx hb dX6_putBlock_19 rfl (lv_at hl 3 rfl) ?_
  refine lv_iadd hx hb dX6_putBlock_20 ?_
  refine va_put (D := G.1) (ci := 6) (v := .int (t_length + x3)) (ty := .int) (C := RX6) (T := TX6) (N := 5) hx hb hB iX6 tyX6 tyX6_ok nmX6 hown hK.1 hP hD hS 0 rfl rfl 3 (by decide) (hB _ kw177) (fun _ h9 => h9) rfl (by decide +kernel) rfl rfl (Nat.le_of_ble_eq_true rfl) dX6_putBlock_21 (fun H locs hP hD hS => ?_)
  have hP : va_P G.1 vwCl (wdX6_putBlock G a_t a_t_row a_p1 N_p1 t_address t_master (t_length + x3) t_nextNumber (va_cpy p1 t_row (ix x2) (ix t_length) (ix x3)) p1) H := hP
  have hD : va_D A (wdX6_putBlock G a_t a_t_row a_p1 N_p1 t_address t_master (t_length + x3) t_nextNumber (va_cpy p1 t_row (ix x2) (ix t_length) (ix x3)) p1) := hD
  refine lv_aload_n hx hb dX6_putBlock_24 rfl (lv_at hl 0 rfl) ?_
  refine lv_aload_n hx hb dX6_putBlock_25 rfl (lv_at hl 0 rfl) ?_
  refine va_get (D := G.1) (ci := 6) (v := .ref a_t_row) (C := RX6) (T := TX6) (N := 5) hx hb hB iX6 hown hK.1 hP 0 rfl rfl 2 (by decide) (hB _ kw176) (fun _ h9 => h9) rfl dX6_putBlock_26 ?_
  refine lv_aload_n hx hb dX6_putBlock_29 rfl (lv_at hl 0 rfl) ?_
  refine va_get (D := G.1) (ci := 6) (v := .int (t_length + x3)) (C := RX6) (T := TX6) (N := 5) hx hb hB iX6 hown hK.1 hP 0 rfl rfl 3 (by decide) (hB _ kw177) (fun _ h9 => h9) rfl dX6_putBlock_30 ?_
  refine lv_iload_n hx hb dX6_putBlock_33 rfl (lv_at hl 3 rfl) ?_
  refine lv_isub hx hb dX6_putBlock_34 ?_
  refine lv_aload_n hx hb dX6_putBlock_35 rfl (lv_at hl 0 rfl) ?_
  refine va_get (D := G.1) (ci := 6) (v := .int (t_length + x3)) (C := RX6) (T := TX6) (N := 5) hx hb hB iX6 hown hK.1 hP 0 rfl rfl 3 (by decide) (hB _ kw177) (fun _ h9 => h9) rfl dX6_putBlock_36 ?_
  obtain ⟨u2, hu2, h⟩ := bnd_some h
  have hPc := hP.sub (ws' := (wdX9_checkOf G a_t_row 4000 (va_cpy p1 t_row (ix x2) (ix t_length) (ix x3)))) [1] rfl
  have hDc := hD.sub (ws' := (wdX9_checkOf G a_t_row 4000 (va_cpy p1 t_row (ix x2) (ix t_length) (ix x3)))) [1] (by decide) rfl
  refine g_i (wc := (wdX9_checkOf G a_t_row 4000 (va_cpy p1 t_row (ix x2) (ix t_length) (ix x3)))) (w1 := (wdX9_checkOf G a_t_row 4000 (va_cpy p1 t_row (ix x2) (ix t_length) (ix x3)))) (w2 := (wdX6_putBlock G a_t a_t_row a_p1 N_p1 t_address t_master (t_length + x3) t_nextNumber (va_cpy p1 t_row (ix x2) (ix t_length) (ix x3)) p1)) (va_runSN (As := [.ref a_t_row, .int ((t_length + x3) - x3), .int (t_length + x3)]) (rest := [.ref a_t]) ⟨hx, hb, hml, hown, hts⟩ (mX9_checkOf l G a_t_row 4000 (va_cpy p1 t_row (ix x2) (ix t_length) (ix x3)) ((t_length + x3) - x3) (t_length + x3) H.size u2 hu2) ⟨(va_cnB 3 hts (bgIn kw438) rfl rfl rfl (hK.2.1 ("OutStation$Outgoing", 70, yX9_checkOf, "OutStation") (by decide +kernel)) (hB _ kw46) hdX9_checkOf ⟨(Nat.le_of_ble_eq_true rfl), (Nat.le_of_ble_eq_true rfl)⟩), hB _ kw437, trivial⟩ (gPreS hK hPc hDc) rfl rfl hl.1 rfl (lv_room (Nat.le_of_ble_eq_true rfl)) dX6_putBlock_39 ⟨(Nat.le_of_ble_eq_true rfl), (Nat.le_of_ble_eq_true rfl)⟩) hP hD hS hA [1] rfl rfl [.inl 0, .inr 0, .inl 2] rfl rfl (fun H locs hP hD hS => ?_)
  obtain ⟨u3, hu3, h⟩ := bnd_some h
  have hPc := hP.sub (ws' := (wdX6_putTwo G a_t a_t_row t_address t_master (t_length + x3) t_nextNumber (va_cpy p1 t_row (ix x2) (ix t_length) (ix x3)))) [0, 1] rfl
  have hDc := hD.sub (ws' := (wdX6_putTwo G a_t a_t_row t_address t_master (t_length + x3) t_nextNumber (va_cpy p1 t_row (ix x2) (ix t_length) (ix x3)))) [0, 1] (by decide) rfl
  refine g_v (wc := (wdX6_putTwo G a_t a_t_row t_address t_master (t_length + x3) t_nextNumber (va_cpy p1 t_row (ix x2) (ix t_length) (ix x3)))) (w1 := (wdX6_putTwo G a_t a_t_row t_address t_master u3.1 t_nextNumber u3.2)) (w2 := (wdX6_putBlock G a_t a_t_row a_p1 N_p1 t_address t_master u3.1 t_nextNumber u3.2 p1)) (va_runV (As := [.int u2]) (rest := []) ⟨hx, hb, hml, hown, hts⟩ (mX6_putTwo l G a_t a_t_row t_address t_master t_nextNumber u2 (t_length + x3) (va_cpy p1 t_row (ix x2) (ix t_length) (ix x3)) H.size u3 hu3) ⟨(callB_of 1 hts (bgIn kw498) rfl rfl rfl (hB _ kw51) (hB _ kw495) hdX6_putTwo ⟨(Nat.le_of_ble_eq_true rfl), (Nat.le_of_ble_eq_true rfl)⟩), hB _ kw497, hB _ kw12⟩ (gPreV (ci := 6) (qr := 0) hK hPc hDc rfl rfl rfl) rfl rfl hl.1 rfl (lv_room (Nat.le_of_ble_eq_true rfl)) dX6_putBlock_42 ⟨(Nat.le_of_ble_eq_true rfl), (Nat.le_of_ble_eq_true rfl)⟩) hP hD hS hA [0, 1] rfl rfl [.inr 0, .inr 1, .inl 2] rfl rfl (fun H locs hP hD hS => ?_)
  obtain rfl := Option.some.inj h
  exact W.vret hx hb hr (fun t ht hW => ⟨⟨(), rfl, trivial, by rw [ht]; exact hP, hD⟩, hS.F ht⟩) hS.2.2 dX6_putBlock_45
set_option maxHeartbeats 4000000 in
set_option maxRecDepth 100000 in
theorem mX6_putBlock (l : Launch) (G : GT) (a_t : Nat) (a_t_row : Nat) (a_p1 : Nat) (N_p1 : Nat) (t_address : Int32) (t_master : Int32) (t_nextNumber : Int32) (p1 : Nat → Int32) (x2 : Int32) (x3 : Int32) (t_length : Int32) (t_row : Nat → Int32) (sz : Nat) (out : Int32 × (Nat → Int32)) (h : fX6_putBlock N_p1 p1 x2 x3 t_length t_row = some out) : Met l yX6_putBlock wsX6_putBlock rmX6_putBlock (gPc G [.ref a_t, .ref a_p1, .int x2, .int x3] sz (wdX6_putBlock G a_t a_t_row a_p1 N_p1 t_address t_master t_length t_nextNumber t_row p1)) (gQv G (va_A (wdX6_putBlock G a_t a_t_row a_p1 N_p1 t_address t_master t_length t_nextNumber t_row p1) sz) (wdX6_putBlock G a_t a_t_row a_p1 N_p1 t_address t_master out.1 t_nextNumber out.2 p1)) 0 0 (va_A (wdX6_putBlock G a_t a_t_row a_p1 N_p1 t_address t_master t_length t_nextNumber t_row p1) sz) := by
  refine Met.ofW (cc := cX6_putBlock) (maxL := 4) (ret := none) (by decide) rfl ?_
  intro p e s m args below meth c s₁ B hml hv
  obtain ⟨rfl, hsz, hP, hK, hD0⟩ := hv
  have hts := atoms_spec (ws := wsX6_putBlock) B.pre
  have hown : s.vm.findClass "OutStation$Outgoing" = some m.cls := findClass_of_methodNamed B.named
  subst hsz
  have hD := hD0.self (sz := s.heap.size)
  generalize hAe : va_A (wdX6_putBlock G a_t a_t_row a_p1 N_p1 t_address t_master t_length t_nextNumber t_row p1) s.heap.size = A at hD ⊢
  have hA : ∀ q : Nat, s.heap.size ≤ q → A q := fun q h => by rw [← hAe]; exact Or.inr h
  have hS : va_S A s.heap s.heap [] := va_S.rf
  have hl := lv_entry ([.ref a_t, .ref a_p1, .int x2, .int x3]) (n := 4) (Nat.le_of_ble_eq_true rfl)
  rw [lg_entry_eq]
  generalize (lg_sl ([.ref a_t, .ref a_p1, .int x2, .int x3]) ++ List.replicate (4 - (lg_sl ([.ref a_t, .ref a_p1, .int x2, .int x3])).length) Slot.unset).toArray = ls at hl ⊢
  exact wX6_putBlock_E ⟨B.exec, B.bytes, B.returns, hml, hown, hts, B.notSynchronized, hA, hK⟩ x2 x3 t_length t_row _ _ _ h hP hD hS hl
/-! ### OutStation$Outgoing.sendAnswer (LOutStation$Answer;)V -/
abbrev wdX6_sendAnswer (G : GT) (a_t : Nat) (a_t_row : Nat) (a_p1 : Nat) (a_p1_row : Nat) (a_p1_request : Nat) (t_address : Int32) (t_master : Int32) (t_length : Int32) (t_nextNumber : Int32) (t_row : Nat → Int32) (p1_length : Int32) (p1_requestLength : Int32) (p1_faults : Int32) (p1_withBinaries : Int32) (p1_withAnalogs : Int32) (p1_withEvents : Int32) (p1_row : Nat → Int32) : va_W := [(a_t, .inr (6, [.int t_address, .int t_master, .ref a_t_row, .int t_length, .int t_nextNumber])), (a_t_row, .inl (G.2.1, 4000, .inl t_row)), (a_p1, .inr (0, [.ref a_p1_row, .int p1_length, .ref a_p1_request, .int p1_requestLength, .int p1_faults, .int p1_withBinaries, .int p1_withAnalogs, .int p1_withEvents])), (a_p1_row, .inl (G.2.1, 250, .inl p1_row))]
abbrev wsX6_sendAnswer : List Cond := .code yX6_sendAnswer cX6_sendAnswer 3 none :: BG
abbrev rmX6_sendAnswer : Room := { frames := 3, cells := 0, slots := 0, locals := 70 }
noncomputable def fX6_sendAnswer_L45 (t_address : Int32) (t_master : Int32) (p1_length : Int32) (n : Nat) : Int32 → Int32 → Int32 → (Nat → Int32) → (Nat → Int32) → Option (Int32 × Int32 × (Nat → Int32) × (Nat → Int32)) := Nat.rec (motive := fun _ => Int32 → Int32 → Int32 → (Nat → Int32) → (Nat → Int32) → Option (Int32 × Int32 × (Nat → Int32) × (Nat → Int32))) (fun _ _ _ _ _ => none) (fun _ k_L45 x2 t_length t_nextNumber t_row p1_row => bnd (fX0_size p1_length) (fun u1 => brc (u1 ≤ x2) (some (t_length, t_nextNumber, t_row, p1_row)) (bnd (fX0_bytes) (fun u2 => bnd (fX0_size p1_length) (fun u3 => bnd (fX6_putBlock 250 p1_row x2 (if (u3 - x2) < (16 : Int32) then (u3 - x2) else (16 : Int32)) t_length t_row) (fun u4 => k_L45 (x2 + (16 : Int32)) u4.1 t_nextNumber u4.2 p1_row)))))) n
set_option maxHeartbeats 4000000 in
set_option maxRecDepth 100000 in
theorem wX6_sendAnswer_L45 {p : Program} {l : Launch} {e : Env} {s : State} {m : MethodId} {args : Array Value} {below : List Frame} {meth : Method} {c : Code} {G : GT} {A : Nat → Prop} (C : cxt p s m args meth c cX6_sendAnswer none 3 "OutStation$Outgoing" wsX6_sendAnswer G A) {a_t : Nat} {a_t_row : Nat} {a_p1 : Nat} {a_p1_row : Nat} {a_p1_request : Nat} {t_address : Int32} {t_master : Int32} {p1_length : Int32} {p1_requestLength : Int32} {p1_faults : Int32} {p1_withBinaries : Int32} {p1_withAnalogs : Int32} {p1_withEvents : Int32} {out : Int32 × Int32 × (Nat → Int32) × (Nat → Int32)} : ∀ (n : Nat) (x2 : Int32) (t_length : Int32) (t_nextNumber : Int32) (t_row : Nat → Int32) (p1_row : Nat → Int32) (H : Heap) (locs : List Loc) (ls : Array Slot), fX6_sendAnswer_L45 t_address t_master p1_length n x2 t_length t_nextNumber t_row p1_row = some out → va_P G.1 vwCl (wdX6_sendAnswer G a_t a_t_row a_p1 a_p1_row a_p1_request t_address t_master t_length t_nextNumber t_row p1_length p1_requestLength p1_faults p1_withBinaries p1_withAnalogs p1_withEvents p1_row) H → va_D A (wdX6_sendAnswer G a_t a_t_row a_p1 a_p1_row a_p1_request t_address t_master t_length t_nextNumber t_row p1_length p1_requestLength p1_faults p1_withBinaries p1_withAnalogs p1_withEvents p1_row) → va_S A s.heap H locs → lv_has ls 3 [(0, .ref a_t), (1, .ref a_p1), (2, .int x2)] → W p l e rmX6_sendAnswer s m args below meth c H locs 0 0 (MQ below (gQv G A (wdX6_sendAnswer G a_t a_t_row a_p1 a_p1_row a_p1_request t_address t_master out.1 out.2.1 out.2.2.1 p1_length p1_requestLength p1_faults p1_withBinaries p1_withAnalogs p1_withEvents out.2.2.2)) args s 0 0 A) (F0 m 45 ls []) := by
  obtain ⟨hx, hb, hr, hml, hown, hts, hlocks, hA, hK⟩ := id C
  have hB : ∀ w ∈ BG, w.before args s = true := fun w h => hts w (List.mem_cons_of_mem _ h)
  intro n
  induction n with
  | zero =>
    intro x2 t_length t_nextNumber t_row p1_row H locs ls h hP hD hS hl
    cases h
  | succ n ih =>
    intro x2 t_length t_nextNumber t_row p1_row H locs ls h hP hD hS hl
    replace h : bnd (fX0_size p1_length) (fun u1 => brc (u1 ≤ x2) (some (t_length, t_nextNumber, t_row, p1_row)) (bnd (fX0_bytes) (fun u2 => bnd (fX0_size p1_length) (fun u3 => bnd (fX6_putBlock 250 p1_row x2 (if (u3 - x2) < (16 : Int32) then (u3 - x2) else (16 : Int32)) t_length t_row) (fun u4 => (fX6_sendAnswer_L45 t_address t_master p1_length n) (x2 + (16 : Int32)) u4.1 t_nextNumber u4.2 p1_row))))) = some out := h
    refine lv_iload_n hx hb dX6_sendAnswer_45 rfl (lv_at hl 2 rfl) ?_
    refine lv_aload_n hx hb dX6_sendAnswer_46 rfl (lv_at hl 1 rfl) ?_
    obtain ⟨u1, hu1, h⟩ := bnd_some h
    have hPc := hP.sub (ws' := (wdX0_size G a_p1 a_p1_row a_p1_request p1_length p1_requestLength p1_faults p1_withBinaries p1_withAnalogs p1_withEvents)) [2] rfl
    have hDc := hD.sub (ws' := (wdX0_size G a_p1 a_p1_row a_p1_request p1_length p1_requestLength p1_faults p1_withBinaries p1_withAnalogs p1_withEvents)) [2] (by decide) rfl
    refine g_i (wc := (wdX0_size G a_p1 a_p1_row a_p1_request p1_length p1_requestLength p1_faults p1_withBinaries p1_withAnalogs p1_withEvents)) (w1 := (wdX0_size G a_p1 a_p1_row a_p1_request p1_length p1_requestLength p1_faults p1_withBinaries p1_withAnalogs p1_withEvents)) (w2 := (wdX6_sendAnswer G a_t a_t_row a_p1 a_p1_row a_p1_request t_address t_master t_length t_nextNumber t_row p1_length p1_requestLength p1_faults p1_withBinaries p1_withAnalogs p1_withEvents p1_row)) (va_runV (As := []) (rest := [.int x2]) ⟨hx, hb, hml, hown, hts⟩ (mX0_size l G a_p1 a_p1_row a_p1_request p1_length p1_requestLength p1_faults p1_withBinaries p1_withAnalogs p1_withEvents H.size u1 hu1) ⟨(callB_of 0 hts (bgIn kw544) rfl rfl rfl (hB _ kw50) (hB _ kw541) hdX0_size ⟨(Nat.le_of_ble_eq_true rfl), (Nat.le_of_ble_eq_true rfl)⟩), hB _ kw542, hB _ kw543⟩ (gPreV (ci := 0) (qr := 0) hK hPc hDc rfl rfl rfl) rfl rfl hl.1 rfl (lv_room (Nat.le_of_ble_eq_true rfl)) dX6_sendAnswer_47 ⟨(Nat.le_of_ble_eq_true rfl), (Nat.le_of_ble_eq_true rfl)⟩) hP hD hS hA [2] rfl rfl [.inl 0, .inl 1, .inr 0, .inl 3] rfl rfl (fun H locs hP hD hS => ?_)
    refine lv_icmp_ge (tgt := 79) hx hb dX6_sendAnswer_50 (by decide) (fun hc50 => ?_) (fun hc50 => ?_)
    · have h := brc_tt h hc50
      obtain rfl := Option.some.inj h
      exact W.vret hx hb hr (fun t ht hW => ⟨⟨(), rfl, trivial, by rw [ht]; exact hP, hD⟩, hS.F ht⟩) hS.2.2 dX6_sendAnswer_79
    · have h := brc_ff h hc50
      refine lv_aload_n hx hb dX6_sendAnswer_53 rfl (lv_at hl 0 rfl) ?_
      refine lv_aload_n hx hb dX6_sendAnswer_54 rfl (lv_at hl 1 rfl) ?_
      obtain ⟨u2, hu2, h⟩ := bnd_some h
      have hPc := hP.sub (ws' := (wdX0_bytes G a_p1 a_p1_row a_p1_request p1_length p1_requestLength p1_faults p1_withBinaries p1_withAnalogs p1_withEvents)) [2] rfl
      have hDc := hD.sub (ws' := (wdX0_bytes G a_p1 a_p1_row a_p1_request p1_length p1_requestLength p1_faults p1_withBinaries p1_withAnalogs p1_withEvents)) [2] (by decide) rfl
      refine g_r (wc := (wdX0_bytes G a_p1 a_p1_row a_p1_request p1_length p1_requestLength p1_faults p1_withBinaries p1_withAnalogs p1_withEvents)) (w1 := (wdX0_bytes G a_p1 a_p1_row a_p1_request p1_length p1_requestLength p1_faults p1_withBinaries p1_withAnalogs p1_withEvents)) (w2 := (wdX6_sendAnswer G a_t a_t_row a_p1 a_p1_row a_p1_request t_address t_master t_length t_nextNumber t_row p1_length p1_requestLength p1_faults p1_withBinaries p1_withAnalogs p1_withEvents p1_row)) (va_runV (As := []) (rest := [.ref a_t]) ⟨hx, hb, hml, hown, hts⟩ (mX0_bytes l G a_p1 a_p1_row a_p1_request p1_length p1_requestLength p1_faults p1_withBinaries p1_withAnalogs p1_withEvents H.size u2 hu2) ⟨(callB_of 0 hts (bgIn kw552) rfl rfl rfl (hB _ kw50) (hB _ kw549) hdX0_bytes ⟨(Nat.le_of_ble_eq_true rfl), (Nat.le_of_ble_eq_true rfl)⟩), hB _ kw550, hB _ kw551⟩ (gPreV (ci := 0) (qr := 0) hK hPc hDc rfl rfl rfl) rfl rfl hl.1 rfl (lv_room (Nat.le_of_ble_eq_true rfl)) dX6_sendAnswer_55 ⟨(Nat.le_of_ble_eq_true rfl), (Nat.le_of_ble_eq_true rfl)⟩) hP hD hS hA [2] rfl rfl [.inl 0, .inl 1, .inr 0, .inl 3] rfl rfl (fun H locs hP hD hS => ?_)
      refine lv_iload_n hx hb dX6_sendAnswer_58 rfl (lv_at hl 2 rfl) ?_
      refine lv_bipush (v := (16 : Int32)) hx hb dX6_sendAnswer_59 (by decide) ?_
      refine lv_aload_n hx hb dX6_sendAnswer_61 rfl (lv_at hl 1 rfl) ?_
      obtain ⟨u3, hu3, h⟩ := bnd_some h
      have hPc := hP.sub (ws' := (wdX0_size G a_p1 a_p1_row a_p1_request p1_length p1_requestLength p1_faults p1_withBinaries p1_withAnalogs p1_withEvents)) [2] rfl
      have hDc := hD.sub (ws' := (wdX0_size G a_p1 a_p1_row a_p1_request p1_length p1_requestLength p1_faults p1_withBinaries p1_withAnalogs p1_withEvents)) [2] (by decide) rfl
      refine g_i (wc := (wdX0_size G a_p1 a_p1_row a_p1_request p1_length p1_requestLength p1_faults p1_withBinaries p1_withAnalogs p1_withEvents)) (w1 := (wdX0_size G a_p1 a_p1_row a_p1_request p1_length p1_requestLength p1_faults p1_withBinaries p1_withAnalogs p1_withEvents)) (w2 := (wdX6_sendAnswer G a_t a_t_row a_p1 a_p1_row a_p1_request t_address t_master t_length t_nextNumber t_row p1_length p1_requestLength p1_faults p1_withBinaries p1_withAnalogs p1_withEvents p1_row)) (va_runV (As := []) (rest := [.int (16 : Int32), .int x2, .ref a_p1_row, .ref a_t]) ⟨hx, hb, hml, hown, hts⟩ (mX0_size l G a_p1 a_p1_row a_p1_request p1_length p1_requestLength p1_faults p1_withBinaries p1_withAnalogs p1_withEvents H.size u3 hu3) ⟨(callB_of 0 hts (bgIn kw544) rfl rfl rfl (hB _ kw50) (hB _ kw541) hdX0_size ⟨(Nat.le_of_ble_eq_true rfl), (Nat.le_of_ble_eq_true rfl)⟩), hB _ kw542, hB _ kw543⟩ (gPreV (ci := 0) (qr := 0) hK hPc hDc rfl rfl rfl) rfl rfl hl.1 rfl (lv_room (Nat.le_of_ble_eq_true rfl)) dX6_sendAnswer_62 ⟨(Nat.le_of_ble_eq_true rfl), (Nat.le_of_ble_eq_true rfl)⟩) hP hD hS hA [2] rfl rfl [.inl 0, .inl 1, .inr 0, .inl 3] rfl rfl (fun H locs hP hD hS => ?_)
      refine lv_iload_n hx hb dX6_sendAnswer_65 rfl (lv_at hl 2 rfl) ?_
      refine lv_isub hx hb dX6_sendAnswer_66 ?_
      refine va_mmin hx hb (hml.trans hl.1.symm) hown (hB _ kw553) (hB _ kw219) (hB _ kw54) (hB _ kw220) (Nat.le_of_ble_eq_true rfl) (Nat.le_of_ble_eq_true rfl) (Nat.le_of_ble_eq_true rfl) (Nat.le_of_ble_eq_true rfl) dX6_sendAnswer_67 ?_
      obtain ⟨u4, hu4, h⟩ := bnd_some h
      have hPc := hP.sub (ws' := (wdX6_putBlock G a_t a_t_row a_p1_row 250 t_address t_master t_length t_nextNumber t_row p1_row)) [0, 1, 3] rfl
      have hDc := hD.sub (ws' := (wdX6_putBlock G a_t a_t_row a_p1_row 250 t_address t_master t_length t_nextNumber t_row p1_row)) [0, 1, 3] (by decide) rfl
      refine g_v (wc := (wdX6_putBlock G a_t a_t_row a_p1_row 250 t_address t_master t_length t_nextNumber t_row p1_row)) (w1 := (wdX6_putBlock G a_t a_t_row a_p1_row 250 t_address t_master u4.1 t_nextNumber u4.2 p1_row)) (w2 := (wdX6_sendAnswer G a_t a_t_row a_p1 a_p1_row a_p1_request t_address t_master u4.1 t_nextNumber u4.2 p1_length p1_requestLength p1_faults p1_withBinaries p1_withAnalogs p1_withEvents p1_row)) (va_runV (As := [.ref a_p1_row, .int x2, .int (if (u3 - x2) < (16 : Int32) then (u3 - x2) else (16 : Int32))]) (rest := []) ⟨hx, hb, hml, hown, hts⟩ (mX6_putBlock l G a_t a_t_row a_p1_row 250 t_address t_master t_nextNumber p1_row x2 (if (u3 - x2) < (16 : Int32) then (u3 - x2) else (16 : Int32)) t_length t_row H.size u4 hu4) ⟨(callB_of 3 hts (bgIn kw557) rfl rfl rfl (hB _ kw51) (hB _ kw554) hdX6_putBlock ⟨(Nat.le_of_ble_eq_true rfl), (Nat.le_of_ble_eq_true rfl)⟩), hB _ kw556, hB _ kw15⟩ (gPreV (ci := 6) (qr := 0) hK hPc hDc rfl rfl rfl) rfl rfl hl.1 rfl (lv_room (Nat.le_of_ble_eq_true rfl)) dX6_sendAnswer_70 ⟨(Nat.le_of_ble_eq_true rfl), (Nat.le_of_ble_eq_true rfl)⟩) hP hD hS hA [0, 1, 3] rfl rfl [.inr 0, .inr 1, .inl 2, .inr 2] rfl rfl (fun H locs hP hD hS => ?_)
      refine lv_iinc (v := (x2 + (16 : Int32))) (lv' := [(2, .int (x2 + (16 : Int32))), (0, .ref a_t), (1, .ref a_p1)]) hx hb dX6_sendAnswer_73 hl (k := 2) rfl rfl (by decide) rfl (fun ls hl => ?_)
      refine lv_goto (tgt := 45) hx hb dX6_sendAnswer_76 (by decide) ?_
      exact ih (x2 + (16 : Int32)) u4.1 t_nextNumber u4.2 p1_row _ _ _ h hP hD hS (lv_sub hl [1, 2, 0] rfl)
noncomputable def fX6_sendAnswer (t_address : Int32) (t_master : Int32) (p1_length : Int32) (t_length : Int32) (t_nextNumber : Int32) (t_row : Nat → Int32) (p1_row : Nat → Int32) : Option (Int32 × Int32 × (Nat → Int32) × (Nat → Int32)) := bnd (fX0_size p1_length) (fun u1 => bnd (fX6_hasRoomFor t_length u1) (fun u2 => brc (u2 = 0) (some (t_length, t_nextNumber, t_row, p1_row)) (bnd (fX0_setNumber t_nextNumber p1_row) (fun u3 => bnd (fX0_size p1_length) (fun u4 => bnd (fX6_putHead t_address t_master (68 : Int32) u4 t_length t_row) (fun u5 => fX6_sendAnswer_L45 t_address t_master p1_length FU (0 : Int32) u5.1 ((t_nextNumber + (1 : Int32)) &&& (63 : Int32)) u5.2 u3))))))
set_option maxHeartbeats 4000000 in
set_option maxRecDepth 100000 in
theorem wX6_sendAnswer_E {p : Program} {l : Launch} {e : Env} {s : State} {m : MethodId} {args : Array Value} {below : List Frame} {meth : Method} {c : Code} {G : GT} {A : Nat → Prop} (C : cxt p s m args meth c cX6_sendAnswer none 3 "OutStation$Outgoing" wsX6_sendAnswer G A) {a_t : Nat} {a_t_row : Nat} {a_p1 : Nat} {a_p1_row : Nat} {a_p1_request : Nat} {t_address : Int32} {t_master : Int32} {p1_length : Int32} {p1_requestLength : Int32} {p1_faults : Int32} {p1_withBinaries : Int32} {p1_withAnalogs : Int32} {p1_withEvents : Int32} {out : Int32 × Int32 × (Nat → Int32) × (Nat → Int32)} : ∀ (t_length : Int32) (t_nextNumber : Int32) (t_row : Nat → Int32) (p1_row : Nat → Int32) (H : Heap) (locs : List Loc) (ls : Array Slot), fX6_sendAnswer t_address t_master p1_length t_length t_nextNumber t_row p1_row = some out → va_P G.1 vwCl (wdX6_sendAnswer G a_t a_t_row a_p1 a_p1_row a_p1_request t_address t_master t_length t_nextNumber t_row p1_length p1_requestLength p1_faults p1_withBinaries p1_withAnalogs p1_withEvents p1_row) H → va_D A (wdX6_sendAnswer G a_t a_t_row a_p1 a_p1_row a_p1_request t_address t_master t_length t_nextNumber t_row p1_length p1_requestLength p1_faults p1_withBinaries p1_withAnalogs p1_withEvents p1_row) → va_S A s.heap H locs → lv_has ls 3 [(0, .ref a_t), (1, .ref a_p1)] → W p l e rmX6_sendAnswer s m args below meth c H locs 0 0 (MQ below (gQv G A (wdX6_sendAnswer G a_t a_t_row a_p1 a_p1_row a_p1_request t_address t_master out.1 out.2.1 out.2.2.1 p1_length p1_requestLength p1_faults p1_withBinaries p1_withAnalogs p1_withEvents out.2.2.2)) args s 0 0 A) (F0 m 0 ls []) := by
  obtain ⟨hx, hb, hr, hml, hown, hts, hlocks, hA, hK⟩ := id C
  have hB : ∀ w ∈ BG, w.before args s = true := fun w h => hts w (List.mem_cons_of_mem _ h)
  intro t_length t_nextNumber t_row p1_row H locs ls h hP hD hS hl
  unfold fX6_sendAnswer at h
  refine lv_aload_n hx hb dX6_sendAnswer_0 rfl (lv_at hl 0 rfl) ?_
  refine lv_aload_n hx hb dX6_sendAnswer_1 rfl (lv_at hl 1 rfl) ?_
  obtain ⟨u1, hu1, h⟩ := bnd_some h
  have hPc := hP.sub (ws' := (wdX0_size G a_p1 a_p1_row a_p1_request p1_length p1_requestLength p1_faults p1_withBinaries p1_withAnalogs p1_withEvents)) [2] rfl
  have hDc := hD.sub (ws' := (wdX0_size G a_p1 a_p1_row a_p1_request p1_length p1_requestLength p1_faults p1_withBinaries p1_withAnalogs p1_withEvents)) [2] (by decide) rfl
  refine g_i (wc := (wdX0_size G a_p1 a_p1_row a_p1_request p1_length p1_requestLength p1_faults p1_withBinaries p1_withAnalogs p1_withEvents)) (w1 := (wdX0_size G a_p1 a_p1_row a_p1_request p1_length p1_requestLength p1_faults p1_withBinaries p1_withAnalogs p1_withEvents)) (w2 := (wdX6_sendAnswer G a_t a_t_row a_p1 a_p1_row a_p1_request t_address t_master t_length t_nextNumber t_row p1_length p1_requestLength p1_faults p1_withBinaries p1_withAnalogs p1_withEvents p1_row)) (va_runV (As := []) (rest := [.ref a_t]) ⟨hx, hb, hml, hown, hts⟩ (mX0_size l G a_p1 a_p1_row a_p1_request p1_length p1_requestLength p1_faults p1_withBinaries p1_withAnalogs p1_withEvents H.size u1 hu1) ⟨(callB_of 0 hts (bgIn kw544) rfl rfl rfl (hB _ kw50) (hB _ kw541) hdX0_size ⟨(Nat.le_of_ble_eq_true rfl), (Nat.le_of_ble_eq_true rfl)⟩), hB _ kw542, hB _ kw543⟩ (gPreV (ci := 0) (qr := 0) hK hPc hDc rfl rfl rfl) rfl rfl hl.1 rfl (lv_room (Nat.le_of_ble_eq_true rfl)) dX6_sendAnswer_2 ⟨(Nat.le_of_ble_eq_true rfl), (Nat.le_of_ble_eq_true rfl)⟩) hP hD hS hA [2] rfl rfl [.inl 0, .inl 1, .inr 0, .inl 3] rfl rfl (fun H locs hP hD hS => ?_)
  obtain ⟨u2, hu2, h⟩ := bnd_some h
  have hPc := hP.sub (ws' := (wdX6_hasRoomFor G a_t a_t_row t_address t_master t_length t_nextNumber)) [0] rfl
  have hDc := hD.sub (ws' := (wdX6_hasRoomFor G a_t a_t_row t_address t_master t_length t_nextNumber)) [0] (by decide) rfl
  refine g_i (wc := (wdX6_hasRoomFor G a_t a_t_row t_address t_master t_length t_nextNumber)) (w1 := (wdX6_hasRoomFor G a_t a_t_row t_address t_master t_length t_nextNumber)) (w2 := (wdX6_sendAnswer G a_t a_t_row a_p1 a_p1_row a_p1_request t_address t_master t_length t_nextNumber t_row p1_length p1_requestLength p1_faults p1_withBinaries p1_withAnalogs p1_withEvents p1_row)) (va_runV (As := [.int u1]) (rest := []) ⟨hx, hb, hml, hown, hts⟩ (mX6_hasRoomFor l G a_t a_t_row t_address t_master t_length t_nextNumber u1 H.size u2 hu2) ⟨(callB_of 1 hts (bgIn kw485) rfl rfl rfl (hB _ kw51) (hB _ kw482) hdX6_hasRoomFor ⟨(Nat.le_of_ble_eq_true rfl), (Nat.le_of_ble_eq_true rfl)⟩), hB _ kw484, hB _ kw9⟩ (gPreV (ci := 6) (qr := 0) hK hPc hDc rfl rfl rfl) rfl rfl hl.1 rfl (lv_room (Nat.le_of_ble_eq_true rfl)) dX6_sendAnswer_5 ⟨(Nat.le_of_ble_eq_true rfl), (Nat.le_of_ble_eq_true rfl)⟩) hP hD hS hA [0] rfl rfl [.inr 0, .inl 1, .inl 2, .inl 3] rfl rfl (fun H locs hP hD hS => ?_)
  refine lv_if_ne (tgt := 12) hx hb dX6_sendAnswer_8 (by decide) (fun hc8 => ?_) (fun hc8 => ?_)
  · have h := brc_ff h hc8
    refine lv_aload_n hx hb dX6_sendAnswer_12 rfl (lv_at hl 1 rfl) ?_
    refine lv_aload_n hx hb dX6_sendAnswer_13 rfl (lv_at hl 0 rfl) ?_
    refine va_get (D := G.1) (ci := 6) (v := .int t_nextNumber) (C := RX6) (T := TX6) (N := 5) hx hb hB iX6 hown hK.1 hP 0 rfl rfl 4 (by decide) (hB _ kw178) (fun _ h9 => h9) rfl dX6_sendAnswer_14 ?_
    obtain ⟨u3, hu3, h⟩ := bnd_some h
    have hPc := hP.sub (ws' := (wdX0_setNumber G a_p1 a_p1_row a_p1_request p1_length p1_requestLength p1_faults p1_withBinaries p1_withAnalogs p1_withEvents p1_row)) [2, 3] rfl
    have hDc := hD.sub (ws' := (wdX0_setNumber G a_p1 a_p1_row a_p1_request p1_length p1_requestLength p1_faults p1_withBinaries p1_withAnalogs p1_withEvents p1_row)) [2, 3] (by decide) rfl
    refine g_v (wc := (wdX0_setNumber G a_p1 a_p1_row a_p1_request p1_length p1_requestLength p1_faults p1_withBinaries p1_withAnalogs p1_withEvents p1_row)) (w1 := (wdX0_setNumber G a_p1 a_p1_row a_p1_request p1_length p1_requestLength p1_faults p1_withBinaries p1_withAnalogs p1_withEvents u3)) (w2 := (wdX6_sendAnswer G a_t a_t_row a_p1 a_p1_row a_p1_request t_address t_master t_length t_nextNumber t_row p1_length p1_requestLength p1_faults p1_withBinaries p1_withAnalogs p1_withEvents u3)) (va_runV (As := [.int t_nextNumber]) (rest := []) ⟨hx, hb, hml, hown, hts⟩ (mX0_setNumber l G a_p1 a_p1_row a_p1_request p1_length p1_requestLength p1_faults p1_withBinaries p1_withAnalogs p1_withEvents t_nextNumber p1_row H.size u3 hu3) ⟨(callB_of 1 hts (bgIn kw548) rfl rfl rfl (hB _ kw50) (hB _ kw545) hdX0_setNumber ⟨(Nat.le_of_ble_eq_true rfl), (Nat.le_of_ble_eq_true rfl)⟩), hB _ kw546, hB _ kw547⟩ (gPreV (ci := 0) (qr := 0) hK hPc hDc rfl rfl rfl) rfl rfl hl.1 rfl (lv_room (Nat.le_of_ble_eq_true rfl)) dX6_sendAnswer_17 ⟨(Nat.le_of_ble_eq_true rfl), (Nat.le_of_ble_eq_true rfl)⟩) hP hD hS hA [2, 3] rfl rfl [.inl 0, .inl 1, .inr 0, .inr 1] rfl rfl (fun H locs hP hD hS => ?_)
    refine lv_aload_n hx hb dX6_sendAnswer_20 rfl (lv_at hl 0 rfl) ?_
    refine lv_aload_n hx hb dX6_sendAnswer_21 rfl (lv_at hl 0 rfl) ?_
    refine va_get (D := G.1) (ci := 6) (v := .int t_nextNumber) (C := RX6) (T := TX6) (N := 5) hx hb hB iX6 hown hK.1 hP 0 rfl rfl 4 (by decide) (hB _ kw178) (fun _ h9 => h9) rfl dX6_sendAnswer_22 ?_
    refine lv_iconst (v := (1 : Int32)) hx hb dX6_sendAnswer_25 (by decide) ?_
    refine lv_iadd hx hb dX6_sendAnswer_26 ?_
    refine lv_bipush (v := (63 : Int32)) hx hb dX6_sendAnswer_27 (by decide) ?_
    refine lv_iand hx hb dX6_sendAnswer_29 ?_
    refine va_put (D := G.1) (ci := 6) (v := .int ((t_nextNumber + (1 : Int32)) &&& (63 : Int32))) (ty := .int) (C := RX6) (T := TX6) (N := 5) hx hb hB iX6 tyX6 tyX6_ok nmX6 hown hK.1 hP hD hS 0 rfl rfl 4 (by decide) (hB _ kw178) (fun _ h9 => h9) rfl (by decide +kernel) rfl rfl (Nat.le_of_ble_eq_true rfl) dX6_sendAnswer_30 (fun H locs hP hD hS => ?_)
    have hP : va_P G.1 vwCl (wdX6_sendAnswer G a_t a_t_row a_p1 a_p1_row a_p1_request t_address t_master t_length ((t_nextNumber + (1 : Int32)) &&& (63 : Int32)) t_row p1_length p1_requestLength p1_faults p1_withBinaries p1_withAnalogs p1_withEvents u3) H := hP
    have hD : va_D A (wdX6_sendAnswer G a_t a_t_row a_p1 a_p1_row a_p1_request t_address t_master t_length ((t_nextNumber + (1 : Int32)) &&& (63 : Int32)) t_row p1_length p1_requestLength p1_faults p1_withBinaries p1_withAnalogs p1_withEvents u3) := hD
    refine lv_aload_n hx hb dX6_sendAnswer_33 rfl (lv_at hl 0 rfl) ?_
    refine lv_bipush (v := (68 : Int32)) hx hb dX6_sendAnswer_34 (by decide) ?_
    refine lv_aload_n hx hb dX6_sendAnswer_36 rfl (lv_at hl 1 rfl) ?_
    obtain ⟨u4, hu4, h⟩ := bnd_some h
    have hPc := hP.sub (ws' := (wdX0_size G a_p1 a_p1_row a_p1_request p1_length p1_requestLength p1_faults p1_withBinaries p1_withAnalogs p1_withEvents)) [2] rfl
    have hDc := hD.sub (ws' := (wdX0_size G a_p1 a_p1_row a_p1_request p1_length p1_requestLength p1_faults p1_withBinaries p1_withAnalogs p1_withEvents)) [2] (by decide) rfl
    refine g_i (wc := (wdX0_size G a_p1 a_p1_row a_p1_request p1_length p1_requestLength p1_faults p1_withBinaries p1_withAnalogs p1_withEvents)) (w1 := (wdX0_size G a_p1 a_p1_row a_p1_request p1_length p1_requestLength p1_faults p1_withBinaries p1_withAnalogs p1_withEvents)) (w2 := (wdX6_sendAnswer G a_t a_t_row a_p1 a_p1_row a_p1_request t_address t_master t_length ((t_nextNumber + (1 : Int32)) &&& (63 : Int32)) t_row p1_length p1_requestLength p1_faults p1_withBinaries p1_withAnalogs p1_withEvents u3)) (va_runV (As := []) (rest := [.int (68 : Int32), .ref a_t]) ⟨hx, hb, hml, hown, hts⟩ (mX0_size l G a_p1 a_p1_row a_p1_request p1_length p1_requestLength p1_faults p1_withBinaries p1_withAnalogs p1_withEvents H.size u4 hu4) ⟨(callB_of 0 hts (bgIn kw544) rfl rfl rfl (hB _ kw50) (hB _ kw541) hdX0_size ⟨(Nat.le_of_ble_eq_true rfl), (Nat.le_of_ble_eq_true rfl)⟩), hB _ kw542, hB _ kw543⟩ (gPreV (ci := 0) (qr := 0) hK hPc hDc rfl rfl rfl) rfl rfl hl.1 rfl (lv_room (Nat.le_of_ble_eq_true rfl)) dX6_sendAnswer_37 ⟨(Nat.le_of_ble_eq_true rfl), (Nat.le_of_ble_eq_true rfl)⟩) hP hD hS hA [2] rfl rfl [.inl 0, .inl 1, .inr 0, .inl 3] rfl rfl (fun H locs hP hD hS => ?_)
    obtain ⟨u5, hu5, h⟩ := bnd_some h
    have hPc := hP.sub (ws' := (wdX6_putHead G a_t a_t_row t_address t_master t_length ((t_nextNumber + (1 : Int32)) &&& (63 : Int32)) t_row)) [0, 1] rfl
    have hDc := hD.sub (ws' := (wdX6_putHead G a_t a_t_row t_address t_master t_length ((t_nextNumber + (1 : Int32)) &&& (63 : Int32)) t_row)) [0, 1] (by decide) rfl
    refine g_v (wc := (wdX6_putHead G a_t a_t_row t_address t_master t_length ((t_nextNumber + (1 : Int32)) &&& (63 : Int32)) t_row)) (w1 := (wdX6_putHead G a_t a_t_row t_address t_master u5.1 ((t_nextNumber + (1 : Int32)) &&& (63 : Int32)) u5.2)) (w2 := (wdX6_sendAnswer G a_t a_t_row a_p1 a_p1_row a_p1_request t_address t_master u5.1 ((t_nextNumber + (1 : Int32)) &&& (63 : Int32)) u5.2 p1_length p1_requestLength p1_faults p1_withBinaries p1_withAnalogs p1_withEvents u3)) (va_runV (As := [.int (68 : Int32), .int u4]) (rest := []) ⟨hx, hb, hml, hown, hts⟩ (mX6_putHead l G a_t a_t_row t_address t_master ((t_nextNumber + (1 : Int32)) &&& (63 : Int32)) (68 : Int32) u4 t_length t_row H.size u5 hu5) ⟨(callB_of 2 hts (bgIn kw490) rfl rfl rfl (hB _ kw51) (hB _ kw487) hdX6_putHead ⟨(Nat.le_of_ble_eq_true rfl), (Nat.le_of_ble_eq_true rfl)⟩), hB _ kw489, hB _ kw10⟩ (gPreV (ci := 6) (qr := 0) hK hPc hDc rfl rfl rfl) rfl rfl hl.1 rfl (lv_room (Nat.le_of_ble_eq_true rfl)) dX6_sendAnswer_40 ⟨(Nat.le_of_ble_eq_true rfl), (Nat.le_of_ble_eq_true rfl)⟩) hP hD hS hA [0, 1] rfl rfl [.inr 0, .inr 1, .inl 2, .inl 3] rfl rfl (fun H locs hP hD hS => ?_)
    refine lv_iconst (v := (0 : Int32)) hx hb dX6_sendAnswer_43 (by decide) ?_
    refine lv_istore_n (lv' := [(2, .int (0 : Int32)), (0, .ref a_t), (1, .ref a_p1)]) hx hb dX6_sendAnswer_44 rfl hl (by decide) rfl (fun ls hl => ?_)
    exact wX6_sendAnswer_L45 C FU (0 : Int32) u5.1 ((t_nextNumber + (1 : Int32)) &&& (63 : Int32)) u5.2 u3 _ _ _ h hP hD hS (lv_sub hl [1, 2, 0] rfl)
  · have h := brc_tt h hc8
    obtain rfl := Option.some.inj h
    exact W.vret hx hb hr (fun t ht hW => ⟨⟨(), rfl, trivial, by rw [ht]; exact hP, hD⟩, hS.F ht⟩) hS.2.2 dX6_sendAnswer_11
set_option maxHeartbeats 4000000 in
set_option maxRecDepth 100000 in
theorem mX6_sendAnswer (l : Launch) (G : GT) (a_t : Nat) (a_t_row : Nat) (a_p1 : Nat) (a_p1_row : Nat) (a_p1_request : Nat) (t_address : Int32) (t_master : Int32) (p1_length : Int32) (p1_requestLength : Int32) (p1_faults : Int32) (p1_withBinaries : Int32) (p1_withAnalogs : Int32) (p1_withEvents : Int32) (t_length : Int32) (t_nextNumber : Int32) (t_row : Nat → Int32) (p1_row : Nat → Int32) (sz : Nat) (out : Int32 × Int32 × (Nat → Int32) × (Nat → Int32)) (h : fX6_sendAnswer t_address t_master p1_length t_length t_nextNumber t_row p1_row = some out) : Met l yX6_sendAnswer wsX6_sendAnswer rmX6_sendAnswer (gPc G [.ref a_t, .ref a_p1] sz (wdX6_sendAnswer G a_t a_t_row a_p1 a_p1_row a_p1_request t_address t_master t_length t_nextNumber t_row p1_length p1_requestLength p1_faults p1_withBinaries p1_withAnalogs p1_withEvents p1_row)) (gQv G (va_A (wdX6_sendAnswer G a_t a_t_row a_p1 a_p1_row a_p1_request t_address t_master t_length t_nextNumber t_row p1_length p1_requestLength p1_faults p1_withBinaries p1_withAnalogs p1_withEvents p1_row) sz) (wdX6_sendAnswer G a_t a_t_row a_p1 a_p1_row a_p1_request t_address t_master out.1 out.2.1 out.2.2.1 p1_length p1_requestLength p1_faults p1_withBinaries p1_withAnalogs p1_withEvents out.2.2.2)) 0 0 (va_A (wdX6_sendAnswer G a_t a_t_row a_p1 a_p1_row a_p1_request t_address t_master t_length t_nextNumber t_row p1_length p1_requestLength p1_faults p1_withBinaries p1_withAnalogs p1_withEvents p1_row) sz) := by
  refine Met.ofW (cc := cX6_sendAnswer) (maxL := 3) (ret := none) (by decide) rfl ?_
  intro p e s m args below meth c s₁ B hml hv
  obtain ⟨rfl, hsz, hP, hK, hD0⟩ := hv
  have hts := atoms_spec (ws := wsX6_sendAnswer) B.pre
  have hown : s.vm.findClass "OutStation$Outgoing" = some m.cls := findClass_of_methodNamed B.named
  subst hsz
  have hD := hD0.self (sz := s.heap.size)
  generalize hAe : va_A (wdX6_sendAnswer G a_t a_t_row a_p1 a_p1_row a_p1_request t_address t_master t_length t_nextNumber t_row p1_length p1_requestLength p1_faults p1_withBinaries p1_withAnalogs p1_withEvents p1_row) s.heap.size = A at hD ⊢
  have hA : ∀ q : Nat, s.heap.size ≤ q → A q := fun q h => by rw [← hAe]; exact Or.inr h
  have hS : va_S A s.heap s.heap [] := va_S.rf
  have hl := lv_entry ([.ref a_t, .ref a_p1]) (n := 3) (Nat.le_of_ble_eq_true rfl)
  rw [lg_entry_eq]
  generalize (lg_sl ([.ref a_t, .ref a_p1]) ++ List.replicate (3 - (lg_sl ([.ref a_t, .ref a_p1])).length) Slot.unset).toArray = ls at hl ⊢
  exact wX6_sendAnswer_E ⟨B.exec, B.bytes, B.returns, hml, hown, hts, B.notSynchronized, hA, hK⟩ t_length t_nextNumber t_row p1_row _ _ _ h hP hD hS hl
