/-! ### OutStation$Incoming.size ()I -/
abbrev wdX4_size (G : GT) (a_t : Nat) (a_t_row : Nat) (a_t_data : Nat) (t_address : Int32) (t_master : Int32) (t_length : Int32) (t_dataLength : Int32) (t_control : Int32) : va_W := [(a_t, .inr (4, [.int t_address, .int t_master, .ref a_t_row, .int t_length, .ref a_t_data, .int t_dataLength, .int t_control]))]
abbrev wsX4_size : List Cond := .code yX4_size cX4_size 1 (some .int) :: BG
abbrev rmX4_size : Room := { frames := 0, cells := 0, slots := 0, locals := 0 }
noncomputable def fX4_size (t_length : Int32) : Option (Int32) := some (t_length)
set_option maxHeartbeats 4000000 in
set_option maxRecDepth 100000 in
theorem wX4_size_E {p : Program} {l : Launch} {e : Env} {s : State} {m : MethodId} {args : Array Value} {below : List Frame} {meth : Method} {c : Code} {G : GT} {A : Nat → Prop} (C : cxt p s m args meth c cX4_size (some .int) 1 "OutStation$Incoming" wsX4_size G A) {a_t : Nat} {a_t_row : Nat} {a_t_data : Nat} {t_address : Int32} {t_master : Int32} {t_length : Int32} {t_dataLength : Int32} {t_control : Int32} {out : Int32} : ∀ (H : Heap) (locs : List Loc) (ls : Array Slot), fX4_size t_length = some out → va_P G.1 vwCl (wdX4_size G a_t a_t_row a_t_data t_address t_master t_length t_dataLength t_control) H → va_D A (wdX4_size G a_t a_t_row a_t_data t_address t_master t_length t_dataLength t_control) → va_S A s.heap H locs → lv_has ls 1 [(0, .ref a_t)] → W p l e rmX4_size s m args below meth c H locs 0 0 (MQ below (gQi G A out (wdX4_size G a_t a_t_row a_t_data t_address t_master t_length t_dataLength t_control)) args s 0 0 A) (F0 m 0 ls []) := by
  obtain ⟨hx, hb, hr, hml, hown, hts, hlocks, hA, hK⟩ := id C
  have hB : ∀ w ∈ BG, w.before args s = true := fun w h => hts w (List.mem_cons_of_mem _ h)
  intro H locs ls h hP hD hS hl
  unfold fX4_size at h
  refine lv_aload_n hx hb dX4_size_0 rfl (lv_at hl 0 rfl) ?_
  refine va_get (D := G.1) (ci := 4) (v := .int t_length) (C := RX4) (T := TX4) (N := 7) hx hb hB iX4 hown hK.1 hP 0 rfl rfl 3 (by decide) (hB _ kw82) (fun _ h9 => h9) rfl dX4_size_1 ?_
  obtain rfl := Option.some.inj h
  exact W.iret (v := t_length) hx hb hr (fun t ht hW => ⟨⟨_, (), rfl, rfl, by rw [ht]; exact hP, hD⟩, hS.F ht⟩) hS.2.2 dX4_size_4
set_option maxHeartbeats 4000000 in
set_option maxRecDepth 100000 in
theorem mX4_size (l : Launch) (G : GT) (a_t : Nat) (a_t_row : Nat) (a_t_data : Nat) (t_address : Int32) (t_master : Int32) (t_length : Int32) (t_dataLength : Int32) (t_control : Int32) (sz : Nat) (out : Int32) (h : fX4_size t_length = some out) : Met l yX4_size wsX4_size rmX4_size (gPc G [.ref a_t] sz (wdX4_size G a_t a_t_row a_t_data t_address t_master t_length t_dataLength t_control)) (gQi G (va_A (wdX4_size G a_t a_t_row a_t_data t_address t_master t_length t_dataLength t_control) sz) out (wdX4_size G a_t a_t_row a_t_data t_address t_master t_length t_dataLength t_control)) 0 0 (va_A (wdX4_size G a_t a_t_row a_t_data t_address t_master t_length t_dataLength t_control) sz) := by
  refine Met.ofW (cc := cX4_size) (maxL := 1) (ret := (some .int)) (by decide) rfl ?_
  intro p e s m args below meth c s₁ B hml hv
  obtain ⟨rfl, hsz, hP, hK, hD0⟩ := hv
  have hts := atoms_spec (ws := wsX4_size) B.pre
  have hown : s.vm.findClass "OutStation$Incoming" = some m.cls := findClass_of_methodNamed B.named
  subst hsz
  have hD := hD0.self (sz := s.heap.size)
  generalize hAe : va_A (wdX4_size G a_t a_t_row a_t_data t_address t_master t_length t_dataLength t_control) s.heap.size = A at hD ⊢
  have hA : ∀ q : Nat, s.heap.size ≤ q → A q := fun q h => by rw [← hAe]; exact Or.inr h
  have hS : va_S A s.heap s.heap [] := va_S.rf
  have hl := lv_entry ([.ref a_t]) (n := 1) (Nat.le_of_ble_eq_true rfl)
  rw [lg_entry_eq]
  generalize (lg_sl ([.ref a_t]) ++ List.replicate (1 - (lg_sl ([.ref a_t])).length) Slot.unset).toArray = ls at hl ⊢
  exact wX4_size_E ⟨B.exec, B.bytes, B.returns, hml, hown, hts, B.notSynchronized, hA, hK⟩  _ _ _ h hP hD hS hl
/-! ### OutStation$Incoming.control ()I -/
abbrev wdX4_control (G : GT) (a_t : Nat) (a_t_row : Nat) (a_t_data : Nat) (t_address : Int32) (t_master : Int32) (t_length : Int32) (t_dataLength : Int32) (t_control : Int32) : va_W := [(a_t, .inr (4, [.int t_address, .int t_master, .ref a_t_row, .int t_length, .ref a_t_data, .int t_dataLength, .int t_control]))]
abbrev wsX4_control : List Cond := .code yX4_control cX4_control 1 (some .int) :: BG
abbrev rmX4_control : Room := { frames := 0, cells := 0, slots := 0, locals := 0 }
noncomputable def fX4_control (t_control : Int32) : Option (Int32) := some (t_control)
set_option maxHeartbeats 4000000 in
set_option maxRecDepth 100000 in
theorem wX4_control_E {p : Program} {l : Launch} {e : Env} {s : State} {m : MethodId} {args : Array Value} {below : List Frame} {meth : Method} {c : Code} {G : GT} {A : Nat → Prop} (C : cxt p s m args meth c cX4_control (some .int) 1 "OutStation$Incoming" wsX4_control G A) {a_t : Nat} {a_t_row : Nat} {a_t_data : Nat} {t_address : Int32} {t_master : Int32} {t_length : Int32} {t_dataLength : Int32} {t_control : Int32} {out : Int32} : ∀ (H : Heap) (locs : List Loc) (ls : Array Slot), fX4_control t_control = some out → va_P G.1 vwCl (wdX4_control G a_t a_t_row a_t_data t_address t_master t_length t_dataLength t_control) H → va_D A (wdX4_control G a_t a_t_row a_t_data t_address t_master t_length t_dataLength t_control) → va_S A s.heap H locs → lv_has ls 1 [(0, .ref a_t)] → W p l e rmX4_control s m args below meth c H locs 0 0 (MQ below (gQi G A out (wdX4_control G a_t a_t_row a_t_data t_address t_master t_length t_dataLength t_control)) args s 0 0 A) (F0 m 0 ls []) := by
  obtain ⟨hx, hb, hr, hml, hown, hts, hlocks, hA, hK⟩ := id C
  have hB : ∀ w ∈ BG, w.before args s = true := fun w h => hts w (List.mem_cons_of_mem _ h)
  intro H locs ls h hP hD hS hl
  unfold fX4_control at h
  refine lv_aload_n hx hb dX4_control_0 rfl (lv_at hl 0 rfl) ?_
  refine va_get (D := G.1) (ci := 4) (v := .int t_control) (C := RX4) (T := TX4) (N := 7) hx hb hB iX4 hown hK.1 hP 0 rfl rfl 6 (by decide) (hB _ kw85) (fun _ h9 => h9) rfl dX4_control_1 ?_
  obtain rfl := Option.some.inj h
  exact W.iret (v := t_control) hx hb hr (fun t ht hW => ⟨⟨_, (), rfl, rfl, by rw [ht]; exact hP, hD⟩, hS.F ht⟩) hS.2.2 dX4_control_4
set_option maxHeartbeats 4000000 in
set_option maxRecDepth 100000 in
theorem mX4_control (l : Launch) (G : GT) (a_t : Nat) (a_t_row : Nat) (a_t_data : Nat) (t_address : Int32) (t_master : Int32) (t_length : Int32) (t_dataLength : Int32) (t_control : Int32) (sz : Nat) (out : Int32) (h : fX4_control t_control = some out) : Met l yX4_control wsX4_control rmX4_control (gPc G [.ref a_t] sz (wdX4_control G a_t a_t_row a_t_data t_address t_master t_length t_dataLength t_control)) (gQi G (va_A (wdX4_control G a_t a_t_row a_t_data t_address t_master t_length t_dataLength t_control) sz) out (wdX4_control G a_t a_t_row a_t_data t_address t_master t_length t_dataLength t_control)) 0 0 (va_A (wdX4_control G a_t a_t_row a_t_data t_address t_master t_length t_dataLength t_control) sz) := by
  refine Met.ofW (cc := cX4_control) (maxL := 1) (ret := (some .int)) (by decide) rfl ?_
  intro p e s m args below meth c s₁ B hml hv
  obtain ⟨rfl, hsz, hP, hK, hD0⟩ := hv
  have hts := atoms_spec (ws := wsX4_control) B.pre
  have hown : s.vm.findClass "OutStation$Incoming" = some m.cls := findClass_of_methodNamed B.named
  subst hsz
  have hD := hD0.self (sz := s.heap.size)
  generalize hAe : va_A (wdX4_control G a_t a_t_row a_t_data t_address t_master t_length t_dataLength t_control) s.heap.size = A at hD ⊢
  have hA : ∀ q : Nat, s.heap.size ≤ q → A q := fun q h => by rw [← hAe]; exact Or.inr h
  have hS : va_S A s.heap s.heap [] := va_S.rf
  have hl := lv_entry ([.ref a_t]) (n := 1) (Nat.le_of_ble_eq_true rfl)
  rw [lg_entry_eq]
  generalize (lg_sl ([.ref a_t]) ++ List.replicate (1 - (lg_sl ([.ref a_t])).length) Slot.unset).toArray = ls at hl ⊢
  exact wX4_control_E ⟨B.exec, B.bytes, B.returns, hml, hown, hts, B.notSynchronized, hA, hK⟩  _ _ _ h hP hD hS hl
/-! ### OutStation$Incoming.data ()[I -/
abbrev wdX4_data (G : GT) (a_t : Nat) (a_t_row : Nat) (a_t_data : Nat) (t_address : Int32) (t_master : Int32) (t_length : Int32) (t_dataLength : Int32) (t_control : Int32) : va_W := [(a_t, .inr (4, [.int t_address, .int t_master, .ref a_t_row, .int t_length, .ref a_t_data, .int t_dataLength, .int t_control]))]
abbrev wsX4_data : List Cond := .code yX4_data cX4_data 1 (some (.array .int)) :: BG
abbrev rmX4_data : Room := { frames := 0, cells := 0, slots := 0, locals := 0 }
noncomputable def fX4_data : Option (Unit) := some ()
set_option maxHeartbeats 4000000 in
set_option maxRecDepth 100000 in
theorem wX4_data_E {p : Program} {l : Launch} {e : Env} {s : State} {m : MethodId} {args : Array Value} {below : List Frame} {meth : Method} {c : Code} {G : GT} {A : Nat → Prop} (C : cxt p s m args meth c cX4_data (some (.array .int)) 1 "OutStation$Incoming" wsX4_data G A) {a_t : Nat} {a_t_row : Nat} {a_t_data : Nat} {t_address : Int32} {t_master : Int32} {t_length : Int32} {t_dataLength : Int32} {t_control : Int32} {out : Unit} : ∀ (H : Heap) (locs : List Loc) (ls : Array Slot), fX4_data = some out → va_P G.1 vwCl (wdX4_data G a_t a_t_row a_t_data t_address t_master t_length t_dataLength t_control) H → va_D A (wdX4_data G a_t a_t_row a_t_data t_address t_master t_length t_dataLength t_control) → va_S A s.heap H locs → lv_has ls 1 [(0, .ref a_t)] → W p l e rmX4_data s m args below meth c H locs 0 0 (MQ below (gQr G A a_t_data (wdX4_data G a_t a_t_row a_t_data t_address t_master t_length t_dataLength t_control)) args s 0 0 A) (F0 m 0 ls []) := by
  obtain ⟨hx, hb, hr, hml, hown, hts, hlocks, hA, hK⟩ := id C
  have hB : ∀ w ∈ BG, w.before args s = true := fun w h => hts w (List.mem_cons_of_mem _ h)
  intro H locs ls h hP hD hS hl
  unfold fX4_data at h
  refine lv_aload_n hx hb dX4_data_0 rfl (lv_at hl 0 rfl) ?_
  refine va_get (D := G.1) (ci := 4) (v := .ref a_t_data) (C := RX4) (T := TX4) (N := 7) hx hb hB iX4 hown hK.1 hP 0 rfl rfl 4 (by decide) (hB _ kw83) (fun _ h9 => h9) rfl dX4_data_1 ?_
  obtain rfl := Option.some.inj h
  exact W.aret (v := .ref a_t_data) hx hb hr (Or.inr ⟨_, rfl⟩) (Or.inr ⟨_, rfl⟩) (fun t ht hW => ⟨⟨(), _, rfl, trivial, rfl, by rw [ht]; exact hP, hD⟩, hS.F ht⟩) hS.2.2 dX4_data_4
set_option maxHeartbeats 4000000 in
set_option maxRecDepth 100000 in
theorem mX4_data (l : Launch) (G : GT) (a_t : Nat) (a_t_row : Nat) (a_t_data : Nat) (t_address : Int32) (t_master : Int32) (t_length : Int32) (t_dataLength : Int32) (t_control : Int32) (sz : Nat) (out : Unit) (h : fX4_data = some out) : Met l yX4_data wsX4_data rmX4_data (gPc G [.ref a_t] sz (wdX4_data G a_t a_t_row a_t_data t_address t_master t_length t_dataLength t_control)) (gQr G (va_A (wdX4_data G a_t a_t_row a_t_data t_address t_master t_length t_dataLength t_control) sz) a_t_data (wdX4_data G a_t a_t_row a_t_data t_address t_master t_length t_dataLength t_control)) 0 0 (va_A (wdX4_data G a_t a_t_row a_t_data t_address t_master t_length t_dataLength t_control) sz) := by
  refine Met.ofW (cc := cX4_data) (maxL := 1) (ret := (some (.array .int))) (by decide) rfl ?_
  intro p e s m args below meth c s₁ B hml hv
  obtain ⟨rfl, hsz, hP, hK, hD0⟩ := hv
  have hts := atoms_spec (ws := wsX4_data) B.pre
  have hown : s.vm.findClass "OutStation$Incoming" = some m.cls := findClass_of_methodNamed B.named
  subst hsz
  have hD := hD0.self (sz := s.heap.size)
  generalize hAe : va_A (wdX4_data G a_t a_t_row a_t_data t_address t_master t_length t_dataLength t_control) s.heap.size = A at hD ⊢
  have hA : ∀ q : Nat, s.heap.size ≤ q → A q := fun q h => by rw [← hAe]; exact Or.inr h
  have hS : va_S A s.heap s.heap [] := va_S.rf
  have hl := lv_entry ([.ref a_t]) (n := 1) (Nat.le_of_ble_eq_true rfl)
  rw [lg_entry_eq]
  generalize (lg_sl ([.ref a_t]) ++ List.replicate (1 - (lg_sl ([.ref a_t])).length) Slot.unset).toArray = ls at hl ⊢
  exact wX4_data_E ⟨B.exec, B.bytes, B.returns, hml, hown, hts, B.notSynchronized, hA, hK⟩  _ _ _ h hP hD hS hl
/-! ### OutStation$Incoming.dataLength ()I -/
abbrev wdX4_dataLength (G : GT) (a_t : Nat) (a_t_row : Nat) (a_t_data : Nat) (t_address : Int32) (t_master : Int32) (t_length : Int32) (t_dataLength : Int32) (t_control : Int32) : va_W := [(a_t, .inr (4, [.int t_address, .int t_master, .ref a_t_row, .int t_length, .ref a_t_data, .int t_dataLength, .int t_control]))]
abbrev wsX4_dataLength : List Cond := .code yX4_dataLength cX4_dataLength 1 (some .int) :: BG
abbrev rmX4_dataLength : Room := { frames := 0, cells := 0, slots := 0, locals := 0 }
noncomputable def fX4_dataLength (t_dataLength : Int32) : Option (Int32) := some (t_dataLength)
set_option maxHeartbeats 4000000 in
set_option maxRecDepth 100000 in
theorem wX4_dataLength_E {p : Program} {l : Launch} {e : Env} {s : State} {m : MethodId} {args : Array Value} {below : List Frame} {meth : Method} {c : Code} {G : GT} {A : Nat → Prop} (C : cxt p s m args meth c cX4_dataLength (some .int) 1 "OutStation$Incoming" wsX4_dataLength G A) {a_t : Nat} {a_t_row : Nat} {a_t_data : Nat} {t_address : Int32} {t_master : Int32} {t_length : Int32} {t_dataLength : Int32} {t_control : Int32} {out : Int32} : ∀ (H : Heap) (locs : List Loc) (ls : Array Slot), fX4_dataLength t_dataLength = some out → va_P G.1 vwCl (wdX4_dataLength G a_t a_t_row a_t_data t_address t_master t_length t_dataLength t_control) H → va_D A (wdX4_dataLength G a_t a_t_row a_t_data t_address t_master t_length t_dataLength t_control) → va_S A s.heap H locs → lv_has ls 1 [(0, .ref a_t)] → W p l e rmX4_dataLength s m args below meth c H locs 0 0 (MQ below (gQi G A out (wdX4_dataLength G a_t a_t_row a_t_data t_address t_master t_length t_dataLength t_control)) args s 0 0 A) (F0 m 0 ls []) := by
  obtain ⟨hx, hb, hr, hml, hown, hts, hlocks, hA, hK⟩ := id C
  have hB : ∀ w ∈ BG, w.before args s = true := fun w h => hts w (List.mem_cons_of_mem _ h)
  intro H locs ls h hP hD hS hl
  unfold fX4_dataLength at h
  refine lv_aload_n hx hb dX4_dataLength_0 rfl (lv_at hl 0 rfl) ?_
  refine va_get (D := G.1) (ci := 4) (v := .int t_dataLength) (C := RX4) (T := TX4) (N := 7) hx hb hB iX4 hown hK.1 hP 0 rfl rfl 5 (by decide) (hB _ kw84) (fun _ h9 => h9) rfl dX4_dataLength_1 ?_
  obtain rfl := Option.some.inj h
  exact W.iret (v := t_dataLength) hx hb hr (fun t ht hW => ⟨⟨_, (), rfl, rfl, by rw [ht]; exact hP, hD⟩, hS.F ht⟩) hS.2.2 dX4_dataLength_4
set_option maxHeartbeats 4000000 in
set_option maxRecDepth 100000 in
theorem mX4_dataLength (l : Launch) (G : GT) (a_t : Nat) (a_t_row : Nat) (a_t_data : Nat) (t_address : Int32) (t_master : Int32) (t_length : Int32) (t_dataLength : Int32) (t_control : Int32) (sz : Nat) (out : Int32) (h : fX4_dataLength t_dataLength = some out) : Met l yX4_dataLength wsX4_dataLength rmX4_dataLength (gPc G [.ref a_t] sz (wdX4_dataLength G a_t a_t_row a_t_data t_address t_master t_length t_dataLength t_control)) (gQi G (va_A (wdX4_dataLength G a_t a_t_row a_t_data t_address t_master t_length t_dataLength t_control) sz) out (wdX4_dataLength G a_t a_t_row a_t_data t_address t_master t_length t_dataLength t_control)) 0 0 (va_A (wdX4_dataLength G a_t a_t_row a_t_data t_address t_master t_length t_dataLength t_control) sz) := by
  refine Met.ofW (cc := cX4_dataLength) (maxL := 1) (ret := (some .int)) (by decide) rfl ?_
  intro p e s m args below meth c s₁ B hml hv
  obtain ⟨rfl, hsz, hP, hK, hD0⟩ := hv
  have hts := atoms_spec (ws := wsX4_dataLength) B.pre
  have hown : s.vm.findClass "OutStation$Incoming" = some m.cls := findClass_of_methodNamed B.named
  subst hsz
  have hD := hD0.self (sz := s.heap.size)
  generalize hAe : va_A (wdX4_dataLength G a_t a_t_row a_t_data t_address t_master t_length t_dataLength t_control) s.heap.size = A at hD ⊢
  have hA : ∀ q : Nat, s.heap.size ≤ q → A q := fun q h => by rw [← hAe]; exact Or.inr h
  have hS : va_S A s.heap s.heap [] := va_S.rf
  have hl := lv_entry ([.ref a_t]) (n := 1) (Nat.le_of_ble_eq_true rfl)
  rw [lg_entry_eq]
  generalize (lg_sl ([.ref a_t]) ++ List.replicate (1 - (lg_sl ([.ref a_t])).length) Slot.unset).toArray = ls at hl ⊢
  exact wX4_dataLength_E ⟨B.exec, B.bytes, B.returns, hml, hown, hts, B.notSynchronized, hA, hK⟩  _ _ _ h hP hD hS hl
/-! ### OutStation$Incoming.addWord (II)V -/
abbrev wdX4_addWord (G : GT) (a_t : Nat) (a_t_row : Nat) (a_t_data : Nat) (t_address : Int32) (t_master : Int32) (t_length : Int32) (t_dataLength : Int32) (t_control : Int32) (t_row : Nat → Int32) : va_W := [(a_t, .inr (4, [.int t_address, .int t_master, .ref a_t_row, .int t_length, .ref a_t_data, .int t_dataLength, .int t_control])), (a_t_row, .inl (G.2.1, 311, .inl t_row))]
abbrev wsX4_addWord : List Cond := .code yX4_addWord cX4_addWord 4 none :: BG
abbrev rmX4_addWord : Room := { frames := 0, cells := 0, slots := 0, locals := 0 }
noncomputable def fX4_addWord_L60 (t_length : Int32) (t_row : Nat → Int32) : Option (Int32 × (Nat → Int32)) := some (t_length, t_row)
set_option maxHeartbeats 4000000 in
set_option maxRecDepth 100000 in
theorem wX4_addWord_L60 {p : Program} {l : Launch} {e : Env} {s : State} {m : MethodId} {args : Array Value} {below : List Frame} {meth : Method} {c : Code} {G : GT} {A : Nat → Prop} (C : cxt p s m args meth c cX4_addWord none 4 "OutStation$Incoming" wsX4_addWord G A) {a_t : Nat} {a_t_row : Nat} {a_t_data : Nat} {t_address : Int32} {t_master : Int32} {t_dataLength : Int32} {t_control : Int32} {out : Int32 × (Nat → Int32)} : ∀ (t_length : Int32) (t_row : Nat → Int32) (H : Heap) (locs : List Loc) (ls : Array Slot), fX4_addWord_L60 t_length t_row = some out → va_P G.1 vwCl (wdX4_addWord G a_t a_t_row a_t_data t_address t_master t_length t_dataLength t_control t_row) H → va_D A (wdX4_addWord G a_t a_t_row a_t_data t_address t_master t_length t_dataLength t_control t_row) → va_S A s.heap H locs → lv_has ls 4 [] → W p l e rmX4_addWord s m args below meth c H locs 0 0 (MQ below (gQv G A (wdX4_addWord G a_t a_t_row a_t_data t_address t_master out.1 t_dataLength t_control out.2)) args s 0 0 A) (F0 m 60 ls []) := by
  obtain ⟨hx, hb, hr, hml, hown, hts, hlocks, hA, hK⟩ := id C
  have hB : ∀ w ∈ BG, w.before args s = true := fun w h => hts w (List.mem_cons_of_mem _ h)
  intro t_length t_row H locs ls h hP hD hS hl
  unfold fX4_addWord_L60 at h
  obtain rfl := Option.some.inj h
  exact W.vret hx hb hr (fun t ht hW => ⟨⟨(), rfl, trivial, by rw [ht]; exact hP, hD⟩, hS.F ht⟩) hS.2.2 dX4_addWord_60
noncomputable def fX4_addWord_L54 (k_L2 : Int32 → Int32 → Int32 → Int32 → (Nat → Int32) → Option (Int32 × (Nat → Int32))) (x1 : Int32) (x2 : Int32) (x3 : Int32) (t_length : Int32) (t_row : Nat → Int32) : Option (Int32 × (Nat → Int32)) := k_L2 x1 x2 (x3 + (1 : Int32)) t_length t_row
set_option maxHeartbeats 4000000 in
set_option maxRecDepth 100000 in
theorem wX4_addWord_L54 {p : Program} {l : Launch} {e : Env} {s : State} {m : MethodId} {args : Array Value} {below : List Frame} {meth : Method} {c : Code} {G : GT} {A : Nat → Prop} (C : cxt p s m args meth c cX4_addWord none 4 "OutStation$Incoming" wsX4_addWord G A) {a_t : Nat} {a_t_row : Nat} {a_t_data : Nat} {t_address : Int32} {t_master : Int32} {t_dataLength : Int32} {t_control : Int32} {k_L2 : Int32 → Int32 → Int32 → Int32 → (Nat → Int32) → Option (Int32 × (Nat → Int32))} {out : Int32 × (Nat → Int32)} (hk_L2 : ∀ (x1 : Int32) (x2 : Int32) (x3 : Int32) (t_length : Int32) (t_row : Nat → Int32) (H : Heap) (locs : List Loc) (ls : Array Slot), k_L2 x1 x2 x3 t_length t_row = some out → va_P G.1 vwCl (wdX4_addWord G a_t a_t_row a_t_data t_address t_master t_length t_dataLength t_control t_row) H → va_D A (wdX4_addWord G a_t a_t_row a_t_data t_address t_master t_length t_dataLength t_control t_row) → va_S A s.heap H locs → lv_has ls 4 [(0, .ref a_t), (1, .int x1), (2, .int x2), (3, .int x3)] → W p l e rmX4_addWord s m args below meth c H locs 0 0 (MQ below (gQv G A (wdX4_addWord G a_t a_t_row a_t_data t_address t_master out.1 t_dataLength t_control out.2)) args s 0 0 A) (F0 m 2 ls [])) : ∀ (x1 : Int32) (x2 : Int32) (x3 : Int32) (t_length : Int32) (t_row : Nat → Int32) (H : Heap) (locs : List Loc) (ls : Array Slot), fX4_addWord_L54 k_L2 x1 x2 x3 t_length t_row = some out → va_P G.1 vwCl (wdX4_addWord G a_t a_t_row a_t_data t_address t_master t_length t_dataLength t_control t_row) H → va_D A (wdX4_addWord G a_t a_t_row a_t_data t_address t_master t_length t_dataLength t_control t_row) → va_S A s.heap H locs → lv_has ls 4 [(0, .ref a_t), (1, .int x1), (2, .int x2), (3, .int x3)] → W p l e rmX4_addWord s m args below meth c H locs 0 0 (MQ below (gQv G A (wdX4_addWord G a_t a_t_row a_t_data t_address t_master out.1 t_dataLength t_control out.2)) args s 0 0 A) (F0 m 54 ls []) := by
  obtain ⟨hx, hb, hr, hml, hown, hts, hlocks, hA, hK⟩ := id C
  have hB : ∀ w ∈ BG, w.before args s = true := fun w h => hts w (List.mem_cons_of_mem _ h)
  intro x1 x2 x3 t_length t_row H locs ls h hP hD hS hl
  unfold fX4_addWord_L54 at h
  refine lv_iinc (v := (x3 + (1 : Int32))) (lv' := [(3, .int (x3 + (1 : Int32))), (0, .ref a_t), (1, .int x1), (2, .int x2)]) hx hb dX4_addWord_54 hl (k := 3) rfl rfl (by decide) rfl (fun ls hl => ?_)
  refine lv_goto (tgt := 2) hx hb dX4_addWord_57 (by decide) ?_
  exact hk_L2 x1 x2 (x3 + (1 : Int32)) t_length t_row _ _ _ h hP hD hS (lv_sub hl [1, 2, 3, 0] rfl)
noncomputable def fX4_addWord_L2 (n : Nat) : Int32 → Int32 → Int32 → Int32 → (Nat → Int32) → Option (Int32 × (Nat → Int32)) := Nat.rec (motive := fun _ => Int32 → Int32 → Int32 → Int32 → (Nat → Int32) → Option (Int32 × (Nat → Int32))) (fun _ _ _ _ _ => none) (fun _ k_L2 x1 x2 x3 t_length t_row => brc ((4 : Int32) ≤ x3) (fX4_addWord_L60 t_length t_row) (brc (x2 ≤ x3) (fX4_addWord_L60 t_length t_row) (brc ((311 : Int32) ≤ t_length) (fX4_addWord_L54 k_L2 x1 x2 x3 t_length t_row) (grd (vp_in t_length 311) (fX4_addWord_L54 k_L2 x1 x2 x3 (t_length + (1 : Int32)) (upd t_row (ix t_length) ((ushr x1 ((24 : Int32) - ((8 : Int32) * x3))) &&& (255 : Int32)))))))) n
set_option maxHeartbeats 4000000 in
set_option maxRecDepth 100000 in
theorem wX4_addWord_L2 {p : Program} {l : Launch} {e : Env} {s : State} {m : MethodId} {args : Array Value} {below : List Frame} {meth : Method} {c : Code} {G : GT} {A : Nat → Prop} (C : cxt p s m args meth c cX4_addWord none 4 "OutStation$Incoming" wsX4_addWord G A) {a_t : Nat} {a_t_row : Nat} {a_t_data : Nat} {t_address : Int32} {t_master : Int32} {t_dataLength : Int32} {t_control : Int32} {out : Int32 × (Nat → Int32)} : ∀ (n : Nat) (x1 : Int32) (x2 : Int32) (x3 : Int32) (t_length : Int32) (t_row : Nat → Int32) (H : Heap) (locs : List Loc) (ls : Array Slot), fX4_addWord_L2 n x1 x2 x3 t_length t_row = some out → va_P G.1 vwCl (wdX4_addWord G a_t a_t_row a_t_data t_address t_master t_length t_dataLength t_control t_row) H → va_D A (wdX4_addWord G a_t a_t_row a_t_data t_address t_master t_length t_dataLength t_control t_row) → va_S A s.heap H locs → lv_has ls 4 [(0, .ref a_t), (1, .int x1), (2, .int x2), (3, .int x3)] → W p l e rmX4_addWord s m args below meth c H locs 0 0 (MQ below (gQv G A (wdX4_addWord G a_t a_t_row a_t_data t_address t_master out.1 t_dataLength t_control out.2)) args s 0 0 A) (F0 m 2 ls []) := by
  obtain ⟨hx, hb, hr, hml, hown, hts, hlocks, hA, hK⟩ := id C
  have hB : ∀ w ∈ BG, w.before args s = true := fun w h => hts w (List.mem_cons_of_mem _ h)
  intro n
  induction n with
  | zero =>
    intro x1 x2 x3 t_length t_row H locs ls h hP hD hS hl
    cases h
  | succ n ih =>
    intro x1 x2 x3 t_length t_row H locs ls h hP hD hS hl
    replace h : brc ((4 : Int32) ≤ x3) (fX4_addWord_L60 t_length t_row) (brc (x2 ≤ x3) (fX4_addWord_L60 t_length t_row) (brc ((311 : Int32) ≤ t_length) (fX4_addWord_L54 (fX4_addWord_L2 n) x1 x2 x3 t_length t_row) (grd (vp_in t_length 311) (fX4_addWord_L54 (fX4_addWord_L2 n) x1 x2 x3 (t_length + (1 : Int32)) (upd t_row (ix t_length) ((ushr x1 ((24 : Int32) - ((8 : Int32) * x3))) &&& (255 : Int32))))))) = some out := h
    refine lv_iload_n hx hb dX4_addWord_2 rfl (lv_at hl 3 rfl) ?_
    refine lv_iconst (v := (4 : Int32)) hx hb dX4_addWord_3 (by decide) ?_
    refine lv_icmp_ge (tgt := 60) hx hb dX4_addWord_4 (by decide) (fun hc4 => ?_) (fun hc4 => ?_)
    · have h := brc_tt h hc4
      exact wX4_addWord_L60 C t_length t_row _ _ _ h hP hD hS (lv_sub hl [] rfl)
    · have h := brc_ff h hc4
      refine lv_iload_n hx hb dX4_addWord_7 rfl (lv_at hl 3 rfl) ?_
      refine lv_iload_n hx hb dX4_addWord_8 rfl (lv_at hl 2 rfl) ?_
      refine lv_icmp_ge (tgt := 60) hx hb dX4_addWord_9 (by decide) (fun hc9 => ?_) (fun hc9 => ?_)
      · have h := brc_tt h hc9
        exact wX4_addWord_L60 C t_length t_row _ _ _ h hP hD hS (lv_sub hl [] rfl)
      · have h := brc_ff h hc9
        refine lv_aload_n hx hb dX4_addWord_12 rfl (lv_at hl 0 rfl) ?_
        refine va_get (D := G.1) (ci := 4) (v := .int t_length) (C := RX4) (T := TX4) (N := 7) hx hb hB iX4 hown hK.1 hP 0 rfl rfl 3 (by decide) (hB _ kw82) (fun _ h9 => h9) rfl dX4_addWord_13 ?_
        refine lv_sipush (v := (311 : Int32)) hx hb dX4_addWord_16 (by decide) ?_
        refine lv_icmp_ge (tgt := 54) hx hb dX4_addWord_19 (by decide) (fun hc19 => ?_) (fun hc19 => ?_)
        · have h := brc_tt h hc19
          exact wX4_addWord_L54 C ih x1 x2 x3 t_length t_row _ _ _ h hP hD hS (lv_sub hl [0, 1, 2, 3] rfl)
        · have h := brc_ff h hc19
          refine lv_aload_n hx hb dX4_addWord_22 rfl (lv_at hl 0 rfl) ?_
          refine va_get (D := G.1) (ci := 4) (v := .ref a_t_row) (C := RX4) (T := TX4) (N := 7) hx hb hB iX4 hown hK.1 hP 0 rfl rfl 2 (by decide) (hB _ kw81) (fun _ h9 => h9) rfl dX4_addWord_23 ?_
          refine lv_aload_n hx hb dX4_addWord_26 rfl (lv_at hl 0 rfl) ?_
          refine va_get (D := G.1) (ci := 4) (v := .int t_length) (C := RX4) (T := TX4) (N := 7) hx hb hB iX4 hown hK.1 hP 0 rfl rfl 3 (by decide) (hB _ kw82) (fun _ h9 => h9) rfl dX4_addWord_27 ?_
          refine lv_iload_n hx hb dX4_addWord_30 rfl (lv_at hl 1 rfl) ?_
          refine lv_bipush (v := (24 : Int32)) hx hb dX4_addWord_31 (by decide) ?_
          refine lv_bipush (v := (8 : Int32)) hx hb dX4_addWord_33 (by decide) ?_
          refine lv_iload_n hx hb dX4_addWord_35 rfl (lv_at hl 3 rfl) ?_
          refine lv_imul hx hb dX4_addWord_36 ?_
          refine lv_isub hx hb dX4_addWord_37 ?_
          refine lv_iushr (v := (ushr x1 ((24 : Int32) - ((8 : Int32) * x3)))) hx hb dX4_addWord_38 rfl ?_
          refine lv_sipush (v := (255 : Int32)) hx hb dX4_addWord_39 (by decide) ?_
          refine lv_iand hx hb dX4_addWord_42 ?_
          obtain ⟨hg1, h⟩ := grd_some h
          refine va_iast hx hb hK.1 hP hD hS 1 0 rfl rfl hg1 dX4_addWord_43 (fun H locs hP hD hS => ?_)
          have hP : va_P G.1 vwCl (wdX4_addWord G a_t a_t_row a_t_data t_address t_master t_length t_dataLength t_control (upd t_row (ix t_length) ((ushr x1 ((24 : Int32) - ((8 : Int32) * x3))) &&& (255 : Int32)))) H := hP
          have hD : va_D A (wdX4_addWord G a_t a_t_row a_t_data t_address t_master t_length t_dataLength t_control (upd t_row (ix t_length) ((ushr x1 ((24 : Int32) - ((8 : Int32) * x3))) &&& (255 : Int32)))) := hD
          refine lv_aload_n hx hb dX4_addWord_44 rfl (lv_at hl 0 rfl) ?_
          refine lv_dup hx hb dX4_addWord_45 rfl ?_
          refine va_get (D := G.1) (ci := 4) (v := .int t_length) (C := RX4) (T := TX4) (N := 7) hx hb hB iX4 hown hK.1 hP 0 rfl rfl 3 (by decide) (hB _ kw82) (fun _ h9 => h9) rfl dX4_addWord_46 ?_
          refine lv_iconst (v := (1 : Int32)) hx hb dX4_addWord_49 (by decide) ?_
          refine lv_iadd hx hb dX4_addWord_50 ?_
          refine va_put (D := G.1) (ci := 4) (v := .int (t_length + (1 : Int32))) (ty := .int) (C := RX4) (T := TX4) (N := 7) hx hb hB iX4 tyX4 tyX4_ok nmX4 hown hK.1 hP hD hS 0 rfl rfl 3 (by decide) (hB _ kw82) (fun _ h9 => h9) rfl (by decide +kernel) rfl rfl (Nat.le_of_ble_eq_true rfl) dX4_addWord_51 (fun H locs hP hD hS => ?_)
          have hP : va_P G.1 vwCl (wdX4_addWord G a_t a_t_row a_t_data t_address t_master (t_length + (1 : Int32)) t_dataLength t_control (upd t_row (ix t_length) ((ushr x1 ((24 : Int32) - ((8 : Int32) * x3))) &&& (255 : Int32)))) H := hP
          have hD : va_D A (wdX4_addWord G a_t a_t_row a_t_data t_address t_master (t_length + (1 : Int32)) t_dataLength t_control (upd t_row (ix t_length) ((ushr x1 ((24 : Int32) - ((8 : Int32) * x3))) &&& (255 : Int32)))) := hD
          exact wX4_addWord_L54 C ih x1 x2 x3 (t_length + (1 : Int32)) (upd t_row (ix t_length) ((ushr x1 ((24 : Int32) - ((8 : Int32) * x3))) &&& (255 : Int32))) _ _ _ h hP hD hS (lv_sub hl [0, 1, 2, 3] rfl)
noncomputable def fX4_addWord (x1 : Int32) (x2 : Int32) (t_length : Int32) (t_row : Nat → Int32) : Option (Int32 × (Nat → Int32)) := fX4_addWord_L2 FU x1 x2 (0 : Int32) t_length t_row
set_option maxHeartbeats 4000000 in
set_option maxRecDepth 100000 in
theorem wX4_addWord_E {p : Program} {l : Launch} {e : Env} {s : State} {m : MethodId} {args : Array Value} {below : List Frame} {meth : Method} {c : Code} {G : GT} {A : Nat → Prop} (C : cxt p s m args meth c cX4_addWord none 4 "OutStation$Incoming" wsX4_addWord G A) {a_t : Nat} {a_t_row : Nat} {a_t_data : Nat} {t_address : Int32} {t_master : Int32} {t_dataLength : Int32} {t_control : Int32} {out : Int32 × (Nat → Int32)} : ∀ (x1 : Int32) (x2 : Int32) (t_length : Int32) (t_row : Nat → Int32) (H : Heap) (locs : List Loc) (ls : Array Slot), fX4_addWord x1 x2 t_length t_row = some out → va_P G.1 vwCl (wdX4_addWord G a_t a_t_row a_t_data t_address t_master t_length t_dataLength t_control t_row) H → va_D A (wdX4_addWord G a_t a_t_row a_t_data t_address t_master t_length t_dataLength t_control t_row) → va_S A s.heap H locs → lv_has ls 4 [(0, .ref a_t), (1, .int x1), (2, .int x2)] → W p l e rmX4_addWord s m args below meth c H locs 0 0 (MQ below (gQv G A (wdX4_addWord G a_t a_t_row a_t_data t_address t_master out.1 t_dataLength t_control out.2)) args s 0 0 A) (F0 m 0 ls []) := by
  obtain ⟨hx, hb, hr, hml, hown, hts, hlocks, hA, hK⟩ := id C
  have hB : ∀ w ∈ BG, w.before args s = true := fun w h => hts w (List.mem_cons_of_mem _ h)
  intro x1 x2 t_length t_row H locs ls h hP hD hS hl
  unfold fX4_addWord at h
  refine lv_iconst (v := (0 : Int32)) hx hb dX4_addWord_0 (by decide) ?_
  refine lv_istore_n (lv' := [(3, .int (0 : Int32)), (0, .ref a_t), (1, .int x1), (2, .int x2)]) hx hb dX4_addWord_1 rfl hl (by decide) rfl (fun ls hl => ?_)
  exact wX4_addWord_L2 C FU x1 x2 (0 : Int32) t_length t_row _ _ _ h hP hD hS (lv_sub hl [1, 2, 3, 0] rfl)
set_option maxHeartbeats 4000000 in
set_option maxRecDepth 100000 in
theorem mX4_addWord (l : Launch) (G : GT) (a_t : Nat) (a_t_row : Nat) (a_t_data : Nat) (t_address : Int32) (t_master : Int32) (t_dataLength : Int32) (t_control : Int32) (x1 : Int32) (x2 : Int32) (t_length : Int32) (t_row : Nat → Int32) (sz : Nat) (out : Int32 × (Nat → Int32)) (h : fX4_addWord x1 x2 t_length t_row = some out) : Met l yX4_addWord wsX4_addWord rmX4_addWord (gPc G [.ref a_t, .int x1, .int x2] sz (wdX4_addWord G a_t a_t_row a_t_data t_address t_master t_length t_dataLength t_control t_row)) (gQv G (va_A (wdX4_addWord G a_t a_t_row a_t_data t_address t_master t_length t_dataLength t_control t_row) sz) (wdX4_addWord G a_t a_t_row a_t_data t_address t_master out.1 t_dataLength t_control out.2)) 0 0 (va_A (wdX4_addWord G a_t a_t_row a_t_data t_address t_master t_length t_dataLength t_control t_row) sz) := by
  refine Met.ofW (cc := cX4_addWord) (maxL := 4) (ret := none) (by decide) rfl ?_
  intro p e s m args below meth c s₁ B hml hv
  obtain ⟨rfl, hsz, hP, hK, hD0⟩ := hv
  have hts := atoms_spec (ws := wsX4_addWord) B.pre
  have hown : s.vm.findClass "OutStation$Incoming" = some m.cls := findClass_of_methodNamed B.named
  subst hsz
  have hD := hD0.self (sz := s.heap.size)
  generalize hAe : va_A (wdX4_addWord G a_t a_t_row a_t_data t_address t_master t_length t_dataLength t_control t_row) s.heap.size = A at hD ⊢
  have hA : ∀ q : Nat, s.heap.size ≤ q → A q := fun q h => by rw [← hAe]; exact Or.inr h
  have hS : va_S A s.heap s.heap [] := va_S.rf
  have hl := lv_entry ([.ref a_t, .int x1, .int x2]) (n := 4) (Nat.le_of_ble_eq_true rfl)
  rw [lg_entry_eq]
  generalize (lg_sl ([.ref a_t, .int x1, .int x2]) ++ List.replicate (4 - (lg_sl ([.ref a_t, .int x1, .int x2])).length) Slot.unset).toArray = ls at hl ⊢
  exact wX4_addWord_E ⟨B.exec, B.bytes, B.returns, hml, hown, hts, B.notSynchronized, hA, hK⟩ x1 x2 t_length t_row _ _ _ h hP hD hS hl
/-! ### OutStation$Incoming.twoAt (I)I -/
abbrev wdX4_twoAt (G : GT) (a_t : Nat) (a_t_row : Nat) (a_t_data : Nat) (t_address : Int32) (t_master : Int32) (t_length : Int32) (t_dataLength : Int32) (t_control : Int32) (t_row : Nat → Int32) : va_W := [(a_t, .inr (4, [.int t_address, .int t_master, .ref a_t_row, .int t_length, .ref a_t_data, .int t_dataLength, .int t_control])), (a_t_row, .inl (G.2.1, 311, .inl t_row))]
abbrev wsX4_twoAt : List Cond := .code yX4_twoAt cX4_twoAt 2 (some .int) :: BG
abbrev rmX4_twoAt : Room := { frames := 0, cells := 0, slots := 0, locals := 0 }
noncomputable def fX4_twoAt (t_row : Nat → Int32) (x1 : Int32) : Option (Int32) := grd (vp_in x1 311) (grd (vp_in (x1 + (1 : Int32)) 311) (some (((t_row (ix x1)) ||| ((t_row (ix (x1 + (1 : Int32)))) <<< ((8 : Int32) &&& 31))))))
set_option maxHeartbeats 4000000 in
set_option maxRecDepth 100000 in
theorem wX4_twoAt_E {p : Program} {l : Launch} {e : Env} {s : State} {m : MethodId} {args : Array Value} {below : List Frame} {meth : Method} {c : Code} {G : GT} {A : Nat → Prop} (C : cxt p s m args meth c cX4_twoAt (some .int) 2 "OutStation$Incoming" wsX4_twoAt G A) {a_t : Nat} {a_t_row : Nat} {a_t_data : Nat} {t_address : Int32} {t_master : Int32} {t_length : Int32} {t_dataLength : Int32} {t_control : Int32} {t_row : Nat → Int32} {out : Int32} : ∀ (x1 : Int32) (H : Heap) (locs : List Loc) (ls : Array Slot), fX4_twoAt t_row x1 = some out → va_P G.1 vwCl (wdX4_twoAt G a_t a_t_row a_t_data t_address t_master t_length t_dataLength t_control t_row) H → va_D A (wdX4_twoAt G a_t a_t_row a_t_data t_address t_master t_length t_dataLength t_control t_row) → va_S A s.heap H locs → lv_has ls 2 [(0, .ref a_t), (1, .int x1)] → W p l e rmX4_twoAt s m args below meth c H locs 0 0 (MQ below (gQi G A out (wdX4_twoAt G a_t a_t_row a_t_data t_address t_master t_length t_dataLength t_control t_row)) args s 0 0 A) (F0 m 0 ls []) := by
  obtain ⟨hx, hb, hr, hml, hown, hts, hlocks, hA, hK⟩ := id C
  have hB : ∀ w ∈ BG, w.before args s = true := fun w h => hts w (List.mem_cons_of_mem _ h)
  intro x1 H locs ls h hP hD hS hl
  unfold fX4_twoAt at h
  refine lv_aload_n hx hb dX4_twoAt_0 rfl (lv_at hl 0 rfl) ?_
  refine va_get (D := G.1) (ci := 4) (v := .ref a_t_row) (C := RX4) (T := TX4) (N := 7) hx hb hB iX4 hown hK.1 hP 0 rfl rfl 2 (by decide) (hB _ kw81) (fun _ h9 => h9) rfl dX4_twoAt_1 ?_
  refine lv_iload_n hx hb dX4_twoAt_4 rfl (lv_at hl 1 rfl) ?_
  obtain ⟨hg1, h⟩ := grd_some h
  refine va_iald hx hb hK.1 hP 1 0 rfl rfl hg1 dX4_twoAt_5 ?_
  refine lv_aload_n hx hb dX4_twoAt_6 rfl (lv_at hl 0 rfl) ?_
  refine va_get (D := G.1) (ci := 4) (v := .ref a_t_row) (C := RX4) (T := TX4) (N := 7) hx hb hB iX4 hown hK.1 hP 0 rfl rfl 2 (by decide) (hB _ kw81) (fun _ h9 => h9) rfl dX4_twoAt_7 ?_
  refine lv_iload_n hx hb dX4_twoAt_10 rfl (lv_at hl 1 rfl) ?_
  refine lv_iconst (v := (1 : Int32)) hx hb dX4_twoAt_11 (by decide) ?_
  refine lv_iadd hx hb dX4_twoAt_12 ?_
  obtain ⟨hg2, h⟩ := grd_some h
  refine va_iald hx hb hK.1 hP 1 0 rfl rfl hg2 dX4_twoAt_13 ?_
  refine lv_bipush (v := (8 : Int32)) hx hb dX4_twoAt_14 (by decide) ?_
  refine lv_ishl hx hb dX4_twoAt_16 ?_
  refine lv_ior hx hb dX4_twoAt_17 ?_
  obtain rfl := Option.some.inj h
  exact W.iret (v := ((t_row (ix x1)) ||| ((t_row (ix (x1 + (1 : Int32)))) <<< ((8 : Int32) &&& 31)))) hx hb hr (fun t ht hW => ⟨⟨_, (), rfl, rfl, by rw [ht]; exact hP, hD⟩, hS.F ht⟩) hS.2.2 dX4_twoAt_18
set_option maxHeartbeats 4000000 in
set_option maxRecDepth 100000 in
theorem mX4_twoAt (l : Launch) (G : GT) (a_t : Nat) (a_t_row : Nat) (a_t_data : Nat) (t_address : Int32) (t_master : Int32) (t_length : Int32) (t_dataLength : Int32) (t_control : Int32) (t_row : Nat → Int32) (x1 : Int32) (sz : Nat) (out : Int32) (h : fX4_twoAt t_row x1 = some out) : Met l yX4_twoAt wsX4_twoAt rmX4_twoAt (gPc G [.ref a_t, .int x1] sz (wdX4_twoAt G a_t a_t_row a_t_data t_address t_master t_length t_dataLength t_control t_row)) (gQi G (va_A (wdX4_twoAt G a_t a_t_row a_t_data t_address t_master t_length t_dataLength t_control t_row) sz) out (wdX4_twoAt G a_t a_t_row a_t_data t_address t_master t_length t_dataLength t_control t_row)) 0 0 (va_A (wdX4_twoAt G a_t a_t_row a_t_data t_address t_master t_length t_dataLength t_control t_row) sz) := by
  refine Met.ofW (cc := cX4_twoAt) (maxL := 2) (ret := (some .int)) (by decide) rfl ?_
  intro p e s m args below meth c s₁ B hml hv
  obtain ⟨rfl, hsz, hP, hK, hD0⟩ := hv
  have hts := atoms_spec (ws := wsX4_twoAt) B.pre
  have hown : s.vm.findClass "OutStation$Incoming" = some m.cls := findClass_of_methodNamed B.named
  subst hsz
  have hD := hD0.self (sz := s.heap.size)
  generalize hAe : va_A (wdX4_twoAt G a_t a_t_row a_t_data t_address t_master t_length t_dataLength t_control t_row) s.heap.size = A at hD ⊢
  have hA : ∀ q : Nat, s.heap.size ≤ q → A q := fun q h => by rw [← hAe]; exact Or.inr h
  have hS : va_S A s.heap s.heap [] := va_S.rf
  have hl := lv_entry ([.ref a_t, .int x1]) (n := 2) (Nat.le_of_ble_eq_true rfl)
  rw [lg_entry_eq]
  generalize (lg_sl ([.ref a_t, .int x1]) ++ List.replicate (2 - (lg_sl ([.ref a_t, .int x1])).length) Slot.unset).toArray = ls at hl ⊢
  exact wX4_twoAt_E ⟨B.exec, B.bytes, B.returns, hml, hown, hts, B.notSynchronized, hA, hK⟩ x1 _ _ _ h hP hD hS hl
/-! ### OutStation$Incoming.isCheckRight (II)Z -/
abbrev wdX4_isCheckRight (G : GT) (a_t : Nat) (a_t_row : Nat) (a_t_data : Nat) (t_address : Int32) (t_master : Int32) (t_length : Int32) (t_dataLength : Int32) (t_control : Int32) (t_row : Nat → Int32) : va_W := [(a_t, .inr (4, [.int t_address, .int t_master, .ref a_t_row, .int t_length, .ref a_t_data, .int t_dataLength, .int t_control])), (a_t_row, .inl (G.2.1, 311, .inl t_row))]
abbrev wsX4_isCheckRight : List Cond := .code yX4_isCheckRight cX4_isCheckRight 3 (some .boolean) :: BG
abbrev rmX4_isCheckRight : Room := { frames := 2, cells := 0, slots := 0, locals := 47 }
noncomputable def fX4_isCheckRight_L22 (t_row : Nat → Int32) (s0 : Int32) : Option (Int32) := grd (isB s0) (some (s0))
set_option maxHeartbeats 4000000 in
set_option maxRecDepth 100000 in
theorem wX4_isCheckRight_L22 {p : Program} {l : Launch} {e : Env} {s : State} {m : MethodId} {args : Array Value} {below : List Frame} {meth : Method} {c : Code} {G : GT} {A : Nat → Prop} (C : cxt p s m args meth c cX4_isCheckRight (some .boolean) 3 "OutStation$Incoming" wsX4_isCheckRight G A) {a_t : Nat} {a_t_row : Nat} {a_t_data : Nat} {t_address : Int32} {t_master : Int32} {t_length : Int32} {t_dataLength : Int32} {t_control : Int32} {t_row : Nat → Int32} {out : Int32} : ∀ (s0 : Int32) (H : Heap) (locs : List Loc) (ls : Array Slot), fX4_isCheckRight_L22 t_row s0 = some out → va_P G.1 vwCl (wdX4_isCheckRight G a_t a_t_row a_t_data t_address t_master t_length t_dataLength t_control t_row) H → va_D A (wdX4_isCheckRight G a_t a_t_row a_t_data t_address t_master t_length t_dataLength t_control t_row) → va_S A s.heap H locs → lv_has ls 3 [] → W p l e rmX4_isCheckRight s m args below meth c H locs 0 0 (MQ below (gQi G A out (wdX4_isCheckRight G a_t a_t_row a_t_data t_address t_master t_length t_dataLength t_control t_row)) args s 0 0 A) (F0 m 22 ls [.int s0]) := by
  obtain ⟨hx, hb, hr, hml, hown, hts, hlocks, hA, hK⟩ := id C
  have hB : ∀ w ∈ BG, w.before args s = true := fun w h => hts w (List.mem_cons_of_mem _ h)
  intro s0 H locs ls h hP hD hS hl
  unfold fX4_isCheckRight_L22 at h
  obtain ⟨hg1, h⟩ := grd_some h
  obtain rfl := Option.some.inj h
  exact W.zret (v := s0) hx hb hr (isB_nar hg1) (fun t ht hW => ⟨⟨_, (), rfl, rfl, by rw [ht]; exact hP, hD⟩, hS.F ht⟩) hS.2.2 dX4_isCheckRight_22
noncomputable def fX4_isCheckRight (t_row : Nat → Int32) (x1 : Int32) (x2 : Int32) : Option (Int32) := bnd (fX4_twoAt t_row x2) (fun u1 => bnd (fX9_checkOf 311 t_row x1 x2) (fun u2 => brc (u1 = u2) (fX4_isCheckRight_L22 t_row (1 : Int32)) (fX4_isCheckRight_L22 t_row (0 : Int32))))
set_option maxHeartbeats 4000000 in
set_option maxRecDepth 100000 in
theorem wX4_isCheckRight_E {p : Program} {l : Launch} {e : Env} {s : State} {m : MethodId} {args : Array Value} {below : List Frame} {meth : Method} {c : Code} {G : GT} {A : Nat → Prop} (C : cxt p s m args meth c cX4_isCheckRight (some .boolean) 3 "OutStation$Incoming" wsX4_isCheckRight G A) {a_t : Nat} {a_t_row : Nat} {a_t_data : Nat} {t_address : Int32} {t_master : Int32} {t_length : Int32} {t_dataLength : Int32} {t_control : Int32} {t_row : Nat → Int32} {out : Int32} : ∀ (x1 : Int32) (x2 : Int32) (H : Heap) (locs : List Loc) (ls : Array Slot), fX4_isCheckRight t_row x1 x2 = some out → va_P G.1 vwCl (wdX4_isCheckRight G a_t a_t_row a_t_data t_address t_master t_length t_dataLength t_control t_row) H → va_D A (wdX4_isCheckRight G a_t a_t_row a_t_data t_address t_master t_length t_dataLength t_control t_row) → va_S A s.heap H locs → lv_has ls 3 [(0, .ref a_t), (1, .int x1), (2, .int x2)] → W p l e rmX4_isCheckRight s m args below meth c H locs 0 0 (MQ below (gQi G A out (wdX4_isCheckRight G a_t a_t_row a_t_data t_address t_master t_length t_dataLength t_control t_row)) args s 0 0 A) (F0 m 0 ls []) := by
  obtain ⟨hx, hb, hr, hml, hown, hts, hlocks, hA, hK⟩ := id C
  have hB : ∀ w ∈ BG, w.before args s = true := fun w h => hts w (List.mem_cons_of_mem _ h)
  intro x1 x2 H locs ls h hP hD hS hl
  unfold fX4_isCheckRight at h
  refine lv_aload_n hx hb dX4_isCheckRight_0 rfl (lv_at hl 0 rfl) ?_
  refine lv_iload_n hx hb dX4_isCheckRight_1 rfl (lv_at hl 2 rfl) ?_
  obtain ⟨u1, hu1, h⟩ := bnd_some h
  have hPc := hP.sub (ws' := (wdX4_twoAt G a_t a_t_row a_t_data t_address t_master t_length t_dataLength t_control t_row)) [0, 1] rfl
  have hDc := hD.sub (ws' := (wdX4_twoAt G a_t a_t_row a_t_data t_address t_master t_length t_dataLength t_control t_row)) [0, 1] (by decide) rfl
  refine g_i (wc := (wdX4_twoAt G a_t a_t_row a_t_data t_address t_master t_length t_dataLength t_control t_row)) (w1 := (wdX4_twoAt G a_t a_t_row a_t_data t_address t_master t_length t_dataLength t_control t_row)) (w2 := (wdX4_isCheckRight G a_t a_t_row a_t_data t_address t_master t_length t_dataLength t_control t_row)) (va_runV (As := [.int x2]) (rest := []) ⟨hx, hb, hml, hown, hts⟩ (mX4_twoAt l G a_t a_t_row a_t_data t_address t_master t_length t_dataLength t_control t_row x2 H.size u1 hu1) ⟨(callB_of 1 hts (bgIn kw435) rfl rfl rfl (hB _ kw47) (hB _ kw432) hdX4_twoAt ⟨(Nat.le_of_ble_eq_true rfl), (Nat.le_of_ble_eq_true rfl)⟩), hB _ kw434, hB _ kw3⟩ (gPreV (ci := 4) (qr := 0) hK hPc hDc rfl rfl rfl) rfl rfl hl.1 rfl (lv_room (Nat.le_of_ble_eq_true rfl)) dX4_isCheckRight_2 ⟨(Nat.le_of_ble_eq_true rfl), (Nat.le_of_ble_eq_true rfl)⟩) hP hD hS hA [0, 1] rfl rfl [.inr 0, .inr 1] rfl rfl (fun H locs hP hD hS => ?_)
  refine lv_aload_n hx hb dX4_isCheckRight_5 rfl (lv_at hl 0 rfl) ?_
  refine va_get (D := G.1) (ci := 4) (v := .ref a_t_row) (C := RX4) (T := TX4) (N := 7) hx hb hB iX4 hown hK.1 hP 0 rfl rfl 2 (by decide) (hB _ kw81) (fun _ h9 => h9) rfl dX4_isCheckRight_6 ?_
  refine lv_iload_n hx hb dX4_isCheckRight_9 rfl (lv_at hl 1 rfl) ?_
  refine lv_iload_n hx hb dX4_isCheckRight_10 rfl (lv_at hl 2 rfl) ?_
  obtain ⟨u2, hu2, h⟩ := bnd_some h
  have hPc := hP.sub (ws' := (wdX9_checkOf G a_t_row 311 t_row)) [1] rfl
  have hDc := hD.sub (ws' := (wdX9_checkOf G a_t_row 311 t_row)) [1] (by decide) rfl
  refine g_i (wc := (wdX9_checkOf G a_t_row 311 t_row)) (w1 := (wdX9_checkOf G a_t_row 311 t_row)) (w2 := (wdX4_isCheckRight G a_t a_t_row a_t_data t_address t_master t_length t_dataLength t_control t_row)) (va_runSN (As := [.ref a_t_row, .int x1, .int x2]) (rest := [.int u1]) ⟨hx, hb, hml, hown, hts⟩ (mX9_checkOf l G a_t_row 311 t_row x1 x2 H.size u2 hu2) ⟨(va_cnB 3 hts (bgIn kw438) rfl rfl rfl (hK.2.1 ("OutStation$Incoming", 73, yX9_checkOf, "OutStation") (by decide +kernel)) (hB _ kw46) hdX9_checkOf ⟨(Nat.le_of_ble_eq_true rfl), (Nat.le_of_ble_eq_true rfl)⟩), hB _ kw437, trivial⟩ (gPreS hK hPc hDc) rfl rfl hl.1 rfl (lv_room (Nat.le_of_ble_eq_true rfl)) dX4_isCheckRight_11 ⟨(Nat.le_of_ble_eq_true rfl), (Nat.le_of_ble_eq_true rfl)⟩) hP hD hS hA [1] rfl rfl [.inl 0, .inr 0] rfl rfl (fun H locs hP hD hS => ?_)
  refine lv_icmp_ne (tgt := 21) hx hb dX4_isCheckRight_14 (by decide) (fun hc14 => ?_) (fun hc14 => ?_)
  · have h := brc_ff h hc14
    refine lv_iconst (v := (0 : Int32)) hx hb dX4_isCheckRight_21 (by decide) ?_
    exact wX4_isCheckRight_L22 C (0 : Int32) _ _ _ h hP hD hS (lv_sub hl [] rfl)
  · have h := brc_tt h hc14
    refine lv_iconst (v := (1 : Int32)) hx hb dX4_isCheckRight_17 (by decide) ?_
    refine lv_goto (tgt := 22) hx hb dX4_isCheckRight_18 (by decide) ?_
    exact wX4_isCheckRight_L22 C (1 : Int32) _ _ _ h hP hD hS (lv_sub hl [] rfl)
set_option maxHeartbeats 4000000 in
set_option maxRecDepth 100000 in
theorem mX4_isCheckRight (l : Launch) (G : GT) (a_t : Nat) (a_t_row : Nat) (a_t_data : Nat) (t_address : Int32) (t_master : Int32) (t_length : Int32) (t_dataLength : Int32) (t_control : Int32) (t_row : Nat → Int32) (x1 : Int32) (x2 : Int32) (sz : Nat) (out : Int32) (h : fX4_isCheckRight t_row x1 x2 = some out) : Met l yX4_isCheckRight wsX4_isCheckRight rmX4_isCheckRight (gPc G [.ref a_t, .int x1, .int x2] sz (wdX4_isCheckRight G a_t a_t_row a_t_data t_address t_master t_length t_dataLength t_control t_row)) (gQi G (va_A (wdX4_isCheckRight G a_t a_t_row a_t_data t_address t_master t_length t_dataLength t_control t_row) sz) out (wdX4_isCheckRight G a_t a_t_row a_t_data t_address t_master t_length t_dataLength t_control t_row)) 0 0 (va_A (wdX4_isCheckRight G a_t a_t_row a_t_data t_address t_master t_length t_dataLength t_control t_row) sz) := by
  refine Met.ofW (cc := cX4_isCheckRight) (maxL := 3) (ret := (some .boolean)) (by decide) rfl ?_
  intro p e s m args below meth c s₁ B hml hv
  obtain ⟨rfl, hsz, hP, hK, hD0⟩ := hv
  have hts := atoms_spec (ws := wsX4_isCheckRight) B.pre
  have hown : s.vm.findClass "OutStation$Incoming" = some m.cls := findClass_of_methodNamed B.named
  subst hsz
  have hD := hD0.self (sz := s.heap.size)
  generalize hAe : va_A (wdX4_isCheckRight G a_t a_t_row a_t_data t_address t_master t_length t_dataLength t_control t_row) s.heap.size = A at hD ⊢
  have hA : ∀ q : Nat, s.heap.size ≤ q → A q := fun q h => by rw [← hAe]; exact Or.inr h
  have hS : va_S A s.heap s.heap [] := va_S.rf
  have hl := lv_entry ([.ref a_t, .int x1, .int x2]) (n := 3) (Nat.le_of_ble_eq_true rfl)
  rw [lg_entry_eq]
  generalize (lg_sl ([.ref a_t, .int x1, .int x2]) ++ List.replicate (3 - (lg_sl ([.ref a_t, .int x1, .int x2])).length) Slot.unset).toArray = ls at hl ⊢
  exact wX4_isCheckRight_E ⟨B.exec, B.bytes, B.returns, hml, hown, hts, B.notSynchronized, hA, hK⟩ x1 x2 _ _ _ h hP hD hS hl
/-! ### OutStation$Incoming.mayBeginFrame ()Z -/
abbrev wdX4_mayBeginFrame (G : GT) (a_t : Nat) (a_t_row : Nat) (a_t_data : Nat) (t_address : Int32) (t_master : Int32) (t_length : Int32) (t_dataLength : Int32) (t_control : Int32) (t_row : Nat → Int32) : va_W := [(a_t, .inr (4, [.int t_address, .int t_master, .ref a_t_row, .int t_length, .ref a_t_data, .int t_dataLength, .int t_control])), (a_t_row, .inl (G.2.1, 311, .inl t_row))]
abbrev wsX4_mayBeginFrame : List Cond := .code yX4_mayBeginFrame cX4_mayBeginFrame 1 (some .boolean) :: BG
abbrev rmX4_mayBeginFrame : Room := { frames := 3, cells := 0, slots := 0, locals := 69 }
noncomputable def fX4_mayBeginFrame_L21 (t_length : Int32) (t_row : Nat → Int32) : Option (Int32) := some ((0 : Int32))
set_option maxHeartbeats 4000000 in
set_option maxRecDepth 100000 in
theorem wX4_mayBeginFrame_L21 {p : Program} {l : Launch} {e : Env} {s : State} {m : MethodId} {args : Array Value} {below : List Frame} {meth : Method} {c : Code} {G : GT} {A : Nat → Prop} (C : cxt p s m args meth c cX4_mayBeginFrame (some .boolean) 1 "OutStation$Incoming" wsX4_mayBeginFrame G A) {a_t : Nat} {a_t_row : Nat} {a_t_data : Nat} {t_address : Int32} {t_master : Int32} {t_length : Int32} {t_dataLength : Int32} {t_control : Int32} {t_row : Nat → Int32} {out : Int32} : ∀ (H : Heap) (locs : List Loc) (ls : Array Slot), fX4_mayBeginFrame_L21 t_length t_row = some out → va_P G.1 vwCl (wdX4_mayBeginFrame G a_t a_t_row a_t_data t_address t_master t_length t_dataLength t_control t_row) H → va_D A (wdX4_mayBeginFrame G a_t a_t_row a_t_data t_address t_master t_length t_dataLength t_control t_row) → va_S A s.heap H locs → lv_has ls 1 [] → W p l e rmX4_mayBeginFrame s m args below meth c H locs 0 0 (MQ below (gQi G A out (wdX4_mayBeginFrame G a_t a_t_row a_t_data t_address t_master t_length t_dataLength t_control t_row)) args s 0 0 A) (F0 m 21 ls []) := by
  obtain ⟨hx, hb, hr, hml, hown, hts, hlocks, hA, hK⟩ := id C
  have hB : ∀ w ∈ BG, w.before args s = true := fun w h => hts w (List.mem_cons_of_mem _ h)
  intro H locs ls h hP hD hS hl
  unfold fX4_mayBeginFrame_L21 at h
  refine lv_iconst (v := (0 : Int32)) hx hb dX4_mayBeginFrame_21 (by decide) ?_
  obtain rfl := Option.some.inj h
  exact W.zret (v := (0 : Int32)) hx hb hr (isB_nar (Or.inl rfl)) (fun t ht hW => ⟨⟨_, (), rfl, rfl, by rw [ht]; exact hP, hD⟩, hS.F ht⟩) hS.2.2 dX4_mayBeginFrame_22
noncomputable def fX4_mayBeginFrame_L57 (t_length : Int32) (t_row : Nat → Int32) (s0 : Int32) : Option (Int32) := grd (isB s0) (some (s0))
set_option maxHeartbeats 4000000 in
set_option maxRecDepth 100000 in
theorem wX4_mayBeginFrame_L57 {p : Program} {l : Launch} {e : Env} {s : State} {m : MethodId} {args : Array Value} {below : List Frame} {meth : Method} {c : Code} {G : GT} {A : Nat → Prop} (C : cxt p s m args meth c cX4_mayBeginFrame (some .boolean) 1 "OutStation$Incoming" wsX4_mayBeginFrame G A) {a_t : Nat} {a_t_row : Nat} {a_t_data : Nat} {t_address : Int32} {t_master : Int32} {t_length : Int32} {t_dataLength : Int32} {t_control : Int32} {t_row : Nat → Int32} {out : Int32} : ∀ (s0 : Int32) (H : Heap) (locs : List Loc) (ls : Array Slot), fX4_mayBeginFrame_L57 t_length t_row s0 = some out → va_P G.1 vwCl (wdX4_mayBeginFrame G a_t a_t_row a_t_data t_address t_master t_length t_dataLength t_control t_row) H → va_D A (wdX4_mayBeginFrame G a_t a_t_row a_t_data t_address t_master t_length t_dataLength t_control t_row) → va_S A s.heap H locs → lv_has ls 1 [] → W p l e rmX4_mayBeginFrame s m args below meth c H locs 0 0 (MQ below (gQi G A out (wdX4_mayBeginFrame G a_t a_t_row a_t_data t_address t_master t_length t_dataLength t_control t_row)) args s 0 0 A) (F0 m 57 ls [.int s0]) := by
  obtain ⟨hx, hb, hr, hml, hown, hts, hlocks, hA, hK⟩ := id C
  have hB : ∀ w ∈ BG, w.before args s = true := fun w h => hts w (List.mem_cons_of_mem _ h)
  intro s0 H locs ls h hP hD hS hl
  unfold fX4_mayBeginFrame_L57 at h
  obtain ⟨hg1, h⟩ := grd_some h
  obtain rfl := Option.some.inj h
  exact W.zret (v := s0) hx hb hr (isB_nar hg1) (fun t ht hW => ⟨⟨_, (), rfl, rfl, by rw [ht]; exact hP, hD⟩, hS.F ht⟩) hS.2.2 dX4_mayBeginFrame_57
noncomputable def fX4_mayBeginFrame_L52 (t_length : Int32) (t_row : Nat → Int32) : Option (Int32) := fX4_mayBeginFrame_L57 t_length t_row (1 : Int32)
set_option maxHeartbeats 4000000 in
set_option maxRecDepth 100000 in
theorem wX4_mayBeginFrame_L52 {p : Program} {l : Launch} {e : Env} {s : State} {m : MethodId} {args : Array Value} {below : List Frame} {meth : Method} {c : Code} {G : GT} {A : Nat → Prop} (C : cxt p s m args meth c cX4_mayBeginFrame (some .boolean) 1 "OutStation$Incoming" wsX4_mayBeginFrame G A) {a_t : Nat} {a_t_row : Nat} {a_t_data : Nat} {t_address : Int32} {t_master : Int32} {t_length : Int32} {t_dataLength : Int32} {t_control : Int32} {t_row : Nat → Int32} {out : Int32} : ∀ (H : Heap) (locs : List Loc) (ls : Array Slot), fX4_mayBeginFrame_L52 t_length t_row = some out → va_P G.1 vwCl (wdX4_mayBeginFrame G a_t a_t_row a_t_data t_address t_master t_length t_dataLength t_control t_row) H → va_D A (wdX4_mayBeginFrame G a_t a_t_row a_t_data t_address t_master t_length t_dataLength t_control t_row) → va_S A s.heap H locs → lv_has ls 1 [] → W p l e rmX4_mayBeginFrame s m args below meth c H locs 0 0 (MQ below (gQi G A out (wdX4_mayBeginFrame G a_t a_t_row a_t_data t_address t_master t_length t_dataLength t_control t_row)) args s 0 0 A) (F0 m 52 ls []) := by
  obtain ⟨hx, hb, hr, hml, hown, hts, hlocks, hA, hK⟩ := id C
  have hB : ∀ w ∈ BG, w.before args s = true := fun w h => hts w (List.mem_cons_of_mem _ h)
  intro H locs ls h hP hD hS hl
  unfold fX4_mayBeginFrame_L52 at h
  refine lv_iconst (v := (1 : Int32)) hx hb dX4_mayBeginFrame_52 (by decide) ?_
  refine lv_goto (tgt := 57) hx hb dX4_mayBeginFrame_53 (by decide) ?_
  exact wX4_mayBeginFrame_L57 C (1 : Int32) _ _ _ h hP hD hS (lv_sub hl [] rfl)
noncomputable def fX4_mayBeginFrame_L56 (t_length : Int32) (t_row : Nat → Int32) : Option (Int32) := fX4_mayBeginFrame_L57 t_length t_row (0 : Int32)
set_option maxHeartbeats 4000000 in
set_option maxRecDepth 100000 in
theorem wX4_mayBeginFrame_L56 {p : Program} {l : Launch} {e : Env} {s : State} {m : MethodId} {args : Array Value} {below : List Frame} {meth : Method} {c : Code} {G : GT} {A : Nat → Prop} (C : cxt p s m args meth c cX4_mayBeginFrame (some .boolean) 1 "OutStation$Incoming" wsX4_mayBeginFrame G A) {a_t : Nat} {a_t_row : Nat} {a_t_data : Nat} {t_address : Int32} {t_master : Int32} {t_length : Int32} {t_dataLength : Int32} {t_control : Int32} {t_row : Nat → Int32} {out : Int32} : ∀ (H : Heap) (locs : List Loc) (ls : Array Slot), fX4_mayBeginFrame_L56 t_length t_row = some out → va_P G.1 vwCl (wdX4_mayBeginFrame G a_t a_t_row a_t_data t_address t_master t_length t_dataLength t_control t_row) H → va_D A (wdX4_mayBeginFrame G a_t a_t_row a_t_data t_address t_master t_length t_dataLength t_control t_row) → va_S A s.heap H locs → lv_has ls 1 [] → W p l e rmX4_mayBeginFrame s m args below meth c H locs 0 0 (MQ below (gQi G A out (wdX4_mayBeginFrame G a_t a_t_row a_t_data t_address t_master t_length t_dataLength t_control t_row)) args s 0 0 A) (F0 m 56 ls []) := by
  obtain ⟨hx, hb, hr, hml, hown, hts, hlocks, hA, hK⟩ := id C
  have hB : ∀ w ∈ BG, w.before args s = true := fun w h => hts w (List.mem_cons_of_mem _ h)
  intro H locs ls h hP hD hS hl
  unfold fX4_mayBeginFrame_L56 at h
  refine lv_iconst (v := (0 : Int32)) hx hb dX4_mayBeginFrame_56 (by decide) ?_
  exact wX4_mayBeginFrame_L57 C (0 : Int32) _ _ _ h hP hD hS (lv_sub hl [] rfl)
noncomputable def fX4_mayBeginFrame (t_length : Int32) (t_row : Nat → Int32) : Option (Int32) := brc ((t_row (ix (0 : Int32))) = (5 : Int32)) (brc ((t_row (ix (1 : Int32))) = (100 : Int32)) (brc (t_length < (10 : Int32)) (fX4_mayBeginFrame_L52 t_length t_row) (brc ((t_row (ix (2 : Int32))) < (5 : Int32)) (fX4_mayBeginFrame_L56 t_length t_row) (bnd (fX4_isCheckRight t_row (0 : Int32) (8 : Int32)) (fun u1 => brc (u1 = 0) (fX4_mayBeginFrame_L56 t_length t_row) (fX4_mayBeginFrame_L52 t_length t_row))))) (fX4_mayBeginFrame_L21 t_length t_row)) (fX4_mayBeginFrame_L21 t_length t_row)
set_option maxHeartbeats 4000000 in
set_option maxRecDepth 100000 in
theorem wX4_mayBeginFrame_E {p : Program} {l : Launch} {e : Env} {s : State} {m : MethodId} {args : Array Value} {below : List Frame} {meth : Method} {c : Code} {G : GT} {A : Nat → Prop} (C : cxt p s m args meth c cX4_mayBeginFrame (some .boolean) 1 "OutStation$Incoming" wsX4_mayBeginFrame G A) {a_t : Nat} {a_t_row : Nat} {a_t_data : Nat} {t_address : Int32} {t_master : Int32} {t_length : Int32} {t_dataLength : Int32} {t_control : Int32} {t_row : Nat → Int32} {out : Int32} : ∀ (H : Heap) (locs : List Loc) (ls : Array Slot), fX4_mayBeginFrame t_length t_row = some out → va_P G.1 vwCl (wdX4_mayBeginFrame G a_t a_t_row a_t_data t_address t_master t_length t_dataLength t_control t_row) H → va_D A (wdX4_mayBeginFrame G a_t a_t_row a_t_data t_address t_master t_length t_dataLength t_control t_row) → va_S A s.heap H locs → lv_has ls 1 [(0, .ref a_t)] → W p l e rmX4_mayBeginFrame s m args below meth c H locs 0 0 (MQ below (gQi G A out (wdX4_mayBeginFrame G a_t a_t_row a_t_data t_address t_master t_length t_dataLength t_control t_row)) args s 0 0 A) (F0 m 0 ls []) := by
  obtain ⟨hx, hb, hr, hml, hown, hts, hlocks, hA, hK⟩ := id C
  have hB : ∀ w ∈ BG, w.before args s = true := fun w h => hts w (List.mem_cons_of_mem _ h)
  intro H locs ls h hP hD hS hl
  unfold fX4_mayBeginFrame at h
  refine lv_aload_n hx hb dX4_mayBeginFrame_0 rfl (lv_at hl 0 rfl) ?_
  refine va_get (D := G.1) (ci := 4) (v := .ref a_t_row) (C := RX4) (T := TX4) (N := 7) hx hb hB iX4 hown hK.1 hP 0 rfl rfl 2 (by decide) (hB _ kw81) (fun _ h9 => h9) rfl dX4_mayBeginFrame_1 ?_
  refine lv_iconst (v := (0 : Int32)) hx hb dX4_mayBeginFrame_4 (by decide) ?_
  refine va_iald hx hb hK.1 hP 1 0 rfl rfl (vp_in_nI (n := 0) (N := 311) (by decide) (by decide)) dX4_mayBeginFrame_5 ?_
  refine lv_iconst (v := (5 : Int32)) hx hb dX4_mayBeginFrame_6 (by decide) ?_
  refine lv_icmp_ne (tgt := 21) hx hb dX4_mayBeginFrame_7 (by decide) (fun hc7 => ?_) (fun hc7 => ?_)
  · have h := brc_ff h hc7
    exact wX4_mayBeginFrame_L21 C _ _ _ h hP hD hS (lv_sub hl [] rfl)
  · have h := brc_tt h hc7
    refine lv_aload_n hx hb dX4_mayBeginFrame_10 rfl (lv_at hl 0 rfl) ?_
    refine va_get (D := G.1) (ci := 4) (v := .ref a_t_row) (C := RX4) (T := TX4) (N := 7) hx hb hB iX4 hown hK.1 hP 0 rfl rfl 2 (by decide) (hB _ kw81) (fun _ h9 => h9) rfl dX4_mayBeginFrame_11 ?_
    refine lv_iconst (v := (1 : Int32)) hx hb dX4_mayBeginFrame_14 (by decide) ?_
    refine va_iald hx hb hK.1 hP 1 0 rfl rfl (vp_in_nI (n := 1) (N := 311) (by decide) (by decide)) dX4_mayBeginFrame_15 ?_
    refine lv_bipush (v := (100 : Int32)) hx hb dX4_mayBeginFrame_16 (by decide) ?_
    refine lv_icmp_eq (tgt := 23) hx hb dX4_mayBeginFrame_18 (by decide) (fun hc18 => ?_) (fun hc18 => ?_)
    · have h := brc_tt h hc18
      refine lv_aload_n hx hb dX4_mayBeginFrame_23 rfl (lv_at hl 0 rfl) ?_
      refine va_get (D := G.1) (ci := 4) (v := .int t_length) (C := RX4) (T := TX4) (N := 7) hx hb hB iX4 hown hK.1 hP 0 rfl rfl 3 (by decide) (hB _ kw82) (fun _ h9 => h9) rfl dX4_mayBeginFrame_24 ?_
      refine lv_bipush (v := (10 : Int32)) hx hb dX4_mayBeginFrame_27 (by decide) ?_
      refine lv_icmp_lt (tgt := 52) hx hb dX4_mayBeginFrame_29 (by decide) (fun hc29 => ?_) (fun hc29 => ?_)
      · have h := brc_tt h hc29
        exact wX4_mayBeginFrame_L52 C _ _ _ h hP hD hS (lv_sub hl [] rfl)
      · have h := brc_ff h hc29
        refine lv_aload_n hx hb dX4_mayBeginFrame_32 rfl (lv_at hl 0 rfl) ?_
        refine va_get (D := G.1) (ci := 4) (v := .ref a_t_row) (C := RX4) (T := TX4) (N := 7) hx hb hB iX4 hown hK.1 hP 0 rfl rfl 2 (by decide) (hB _ kw81) (fun _ h9 => h9) rfl dX4_mayBeginFrame_33 ?_
        refine lv_iconst (v := (2 : Int32)) hx hb dX4_mayBeginFrame_36 (by decide) ?_
        refine va_iald hx hb hK.1 hP 1 0 rfl rfl (vp_in_nI (n := 2) (N := 311) (by decide) (by decide)) dX4_mayBeginFrame_37 ?_
        refine lv_iconst (v := (5 : Int32)) hx hb dX4_mayBeginFrame_38 (by decide) ?_
        refine lv_icmp_lt (tgt := 56) hx hb dX4_mayBeginFrame_39 (by decide) (fun hc39 => ?_) (fun hc39 => ?_)
        · have h := brc_tt h hc39
          exact wX4_mayBeginFrame_L56 C _ _ _ h hP hD hS (lv_sub hl [] rfl)
        · have h := brc_ff h hc39
          refine lv_aload_n hx hb dX4_mayBeginFrame_42 rfl (lv_at hl 0 rfl) ?_
          refine lv_iconst (v := (0 : Int32)) hx hb dX4_mayBeginFrame_43 (by decide) ?_
          refine lv_bipush (v := (8 : Int32)) hx hb dX4_mayBeginFrame_44 (by decide) ?_
          obtain ⟨u1, hu1, h⟩ := bnd_some h
          have hPc := hP.sub (ws' := (wdX4_isCheckRight G a_t a_t_row a_t_data t_address t_master t_length t_dataLength t_control t_row)) [0, 1] rfl
          have hDc := hD.sub (ws' := (wdX4_isCheckRight G a_t a_t_row a_t_data t_address t_master t_length t_dataLength t_control t_row)) [0, 1] (by decide) rfl
          refine g_i (wc := (wdX4_isCheckRight G a_t a_t_row a_t_data t_address t_master t_length t_dataLength t_control t_row)) (w1 := (wdX4_isCheckRight G a_t a_t_row a_t_data t_address t_master t_length t_dataLength t_control t_row)) (w2 := (wdX4_mayBeginFrame G a_t a_t_row a_t_data t_address t_master t_length t_dataLength t_control t_row)) (va_runV (As := [.int (0 : Int32), .int (8 : Int32)]) (rest := []) ⟨hx, hb, hml, hown, hts⟩ (mX4_isCheckRight l G a_t a_t_row a_t_data t_address t_master t_length t_dataLength t_control t_row (0 : Int32) (8 : Int32) H.size u1 hu1) ⟨(callB_of 2 hts (bgIn kw431) rfl rfl rfl (hB _ kw47) (hB _ kw428) hdX4_isCheckRight ⟨(Nat.le_of_ble_eq_true rfl), (Nat.le_of_ble_eq_true rfl)⟩), hB _ kw430, hB _ kw2⟩ (gPreV (ci := 4) (qr := 0) hK hPc hDc rfl rfl rfl) rfl rfl hl.1 rfl (lv_room (Nat.le_of_ble_eq_true rfl)) dX4_mayBeginFrame_46 ⟨(Nat.le_of_ble_eq_true rfl), (Nat.le_of_ble_eq_true rfl)⟩) hP hD hS hA [0, 1] rfl rfl [.inr 0, .inr 1] rfl rfl (fun H locs hP hD hS => ?_)
          refine lv_if_eq (tgt := 56) hx hb dX4_mayBeginFrame_49 (by decide) (fun hc49 => ?_) (fun hc49 => ?_)
          · have h := brc_tt h hc49
            exact wX4_mayBeginFrame_L56 C _ _ _ h hP hD hS (lv_sub hl [] rfl)
          · have h := brc_ff h hc49
            exact wX4_mayBeginFrame_L52 C _ _ _ h hP hD hS (lv_sub hl [] rfl)
    · have h := brc_ff h hc18
      exact wX4_mayBeginFrame_L21 C _ _ _ h hP hD hS (lv_sub hl [] rfl)
set_option maxHeartbeats 4000000 in
set_option maxRecDepth 100000 in
theorem mX4_mayBeginFrame (l : Launch) (G : GT) (a_t : Nat) (a_t_row : Nat) (a_t_data : Nat) (t_address : Int32) (t_master : Int32) (t_length : Int32) (t_dataLength : Int32) (t_control : Int32) (t_row : Nat → Int32) (sz : Nat) (out : Int32) (h : fX4_mayBeginFrame t_length t_row = some out) : Met l yX4_mayBeginFrame wsX4_mayBeginFrame rmX4_mayBeginFrame (gPc G [.ref a_t] sz (wdX4_mayBeginFrame G a_t a_t_row a_t_data t_address t_master t_length t_dataLength t_control t_row)) (gQi G (va_A (wdX4_mayBeginFrame G a_t a_t_row a_t_data t_address t_master t_length t_dataLength t_control t_row) sz) out (wdX4_mayBeginFrame G a_t a_t_row a_t_data t_address t_master t_length t_dataLength t_control t_row)) 0 0 (va_A (wdX4_mayBeginFrame G a_t a_t_row a_t_data t_address t_master t_length t_dataLength t_control t_row) sz) := by
  refine Met.ofW (cc := cX4_mayBeginFrame) (maxL := 1) (ret := (some .boolean)) (by decide) rfl ?_
  intro p e s m args below meth c s₁ B hml hv
  obtain ⟨rfl, hsz, hP, hK, hD0⟩ := hv
  have hts := atoms_spec (ws := wsX4_mayBeginFrame) B.pre
  have hown : s.vm.findClass "OutStation$Incoming" = some m.cls := findClass_of_methodNamed B.named
  subst hsz
  have hD := hD0.self (sz := s.heap.size)
  generalize hAe : va_A (wdX4_mayBeginFrame G a_t a_t_row a_t_data t_address t_master t_length t_dataLength t_control t_row) s.heap.size = A at hD ⊢
  have hA : ∀ q : Nat, s.heap.size ≤ q → A q := fun q h => by rw [← hAe]; exact Or.inr h
  have hS : va_S A s.heap s.heap [] := va_S.rf
  have hl := lv_entry ([.ref a_t]) (n := 1) (Nat.le_of_ble_eq_true rfl)
  rw [lg_entry_eq]
  generalize (lg_sl ([.ref a_t]) ++ List.replicate (1 - (lg_sl ([.ref a_t])).length) Slot.unset).toArray = ls at hl ⊢
  exact wX4_mayBeginFrame_E ⟨B.exec, B.bytes, B.returns, hml, hown, hts, B.notSynchronized, hA, hK⟩  _ _ _ h hP hD hS hl
/-! ### OutStation$Incoming.copyData (I)Z -/
abbrev wdX4_copyData (G : GT) (a_t : Nat) (a_t_data : Nat) (a_t_row : Nat) (t_address : Int32) (t_master : Int32) (t_length : Int32) (t_dataLength : Int32) (t_control : Int32) (t_data : Nat → Int32) (t_row : Nat → Int32) : va_W := [(a_t, .inr (4, [.int t_address, .int t_master, .ref a_t_row, .int t_length, .ref a_t_data, .int t_dataLength, .int t_control])), (a_t_data, .inl (G.2.1, 250, .inl t_data)), (a_t_row, .inl (G.2.1, 311, .inl t_row))]
abbrev wsX4_copyData : List Cond := .code yX4_copyData cX4_copyData 6 (some .boolean) :: BG
abbrev rmX4_copyData : Room := { frames := 3, cells := 0, slots := 0, locals := 69 }
noncomputable def fX4_copyData_L67 (t_row : Nat → Int32) (k_L13 : Int32 → Int32 → Int32 → Int32 → Int32 → (Nat → Int32) → Option (Int32 × Int32 × (Nat → Int32))) (x1 : Int32) (x3 : Int32) (x4 : Int32) (x5 : Int32) (s0 : Int32) (t_dataLength : Int32) (t_data : Nat → Int32) : Option (Int32 × Int32 × (Nat → Int32)) := k_L13 x1 s0 (x3 + (x5 + (2 : Int32))) (x4 + (16 : Int32)) t_dataLength t_data
set_option maxHeartbeats 4000000 in
set_option maxRecDepth 100000 in
theorem wX4_copyData_L67 {p : Program} {l : Launch} {e : Env} {s : State} {m : MethodId} {args : Array Value} {below : List Frame} {meth : Method} {c : Code} {G : GT} {A : Nat → Prop} (C : cxt p s m args meth c cX4_copyData (some .boolean) 6 "OutStation$Incoming" wsX4_copyData G A) {a_t : Nat} {a_t_data : Nat} {a_t_row : Nat} {t_address : Int32} {t_master : Int32} {t_length : Int32} {t_control : Int32} {t_row : Nat → Int32} {k_L13 : Int32 → Int32 → Int32 → Int32 → Int32 → (Nat → Int32) → Option (Int32 × Int32 × (Nat → Int32))} {out : Int32 × Int32 × (Nat → Int32)} (hk_L13 : ∀ (x1 : Int32) (x2 : Int32) (x3 : Int32) (x4 : Int32) (t_dataLength : Int32) (t_data : Nat → Int32) (H : Heap) (locs : List Loc) (ls : Array Slot), k_L13 x1 x2 x3 x4 t_dataLength t_data = some out → va_P G.1 vwCl (wdX4_copyData G a_t a_t_data a_t_row t_address t_master t_length t_dataLength t_control t_data t_row) H → va_D A (wdX4_copyData G a_t a_t_data a_t_row t_address t_master t_length t_dataLength t_control t_data t_row) → va_S A s.heap H locs → lv_has ls 6 [(0, .ref a_t), (1, .int x1), (2, .int x2), (3, .int x3), (4, .int x4)] → W p l e rmX4_copyData s m args below meth c H locs 0 0 (MQ below (gQi G A out.1 (wdX4_copyData G a_t a_t_data a_t_row t_address t_master t_length out.2.1 t_control out.2.2 t_row)) args s 0 0 A) (F0 m 13 ls [])) : ∀ (x1 : Int32) (x3 : Int32) (x4 : Int32) (x5 : Int32) (s0 : Int32) (t_dataLength : Int32) (t_data : Nat → Int32) (H : Heap) (locs : List Loc) (ls : Array Slot), fX4_copyData_L67 t_row k_L13 x1 x3 x4 x5 s0 t_dataLength t_data = some out → va_P G.1 vwCl (wdX4_copyData G a_t a_t_data a_t_row t_address t_master t_length t_dataLength t_control t_data t_row) H → va_D A (wdX4_copyData G a_t a_t_data a_t_row t_address t_master t_length t_dataLength t_control t_data t_row) → va_S A s.heap H locs → lv_has ls 6 [(0, .ref a_t), (1, .int x1), (3, .int x3), (4, .int x4), (5, .int x5)] → W p l e rmX4_copyData s m args below meth c H locs 0 0 (MQ below (gQi G A out.1 (wdX4_copyData G a_t a_t_data a_t_row t_address t_master t_length out.2.1 t_control out.2.2 t_row)) args s 0 0 A) (F0 m 67 ls [.int s0]) := by
  obtain ⟨hx, hb, hr, hml, hown, hts, hlocks, hA, hK⟩ := id C
  have hB : ∀ w ∈ BG, w.before args s = true := fun w h => hts w (List.mem_cons_of_mem _ h)
  intro x1 x3 x4 x5 s0 t_dataLength t_data H locs ls h hP hD hS hl
  unfold fX4_copyData_L67 at h
  refine lv_istore_n (lv' := [(2, .int s0), (0, .ref a_t), (1, .int x1), (3, .int x3), (4, .int x4), (5, .int x5)]) hx hb dX4_copyData_67 rfl hl (by decide) rfl (fun ls hl => ?_)
  refine lv_iload_n hx hb dX4_copyData_68 rfl (lv_at hl 3 rfl) ?_
  refine lv_iload hx hb dX4_copyData_69 (lv_at hl 5 rfl) ?_
  refine lv_iconst (v := (2 : Int32)) hx hb dX4_copyData_71 (by decide) ?_
  refine lv_iadd hx hb dX4_copyData_72 ?_
  refine lv_iadd hx hb dX4_copyData_73 ?_
  refine lv_istore_n (lv' := [(3, .int (x3 + (x5 + (2 : Int32)))), (2, .int s0), (0, .ref a_t), (1, .int x1), (4, .int x4), (5, .int x5)]) hx hb dX4_copyData_74 rfl hl (by decide) rfl (fun ls hl => ?_)
  refine lv_iinc (v := (x4 + (16 : Int32))) (lv' := [(4, .int (x4 + (16 : Int32))), (3, .int (x3 + (x5 + (2 : Int32)))), (2, .int s0), (0, .ref a_t), (1, .int x1), (5, .int x5)]) hx hb dX4_copyData_75 hl (k := 4) rfl rfl (by decide) rfl (fun ls hl => ?_)
  refine lv_goto (tgt := 13) hx hb dX4_copyData_78 (by decide) ?_
  exact hk_L13 x1 s0 (x3 + (x5 + (2 : Int32))) (x4 + (16 : Int32)) t_dataLength t_data _ _ _ h hP hD hS (lv_sub hl [3, 4, 2, 1, 0] rfl)
noncomputable def fX4_copyData_L66 (t_row : Nat → Int32) (k_L13 : Int32 → Int32 → Int32 → Int32 → Int32 → (Nat → Int32) → Option (Int32 × Int32 × (Nat → Int32))) (x1 : Int32) (x3 : Int32) (x4 : Int32) (x5 : Int32) (t_dataLength : Int32) (t_data : Nat → Int32) : Option (Int32 × Int32 × (Nat → Int32)) := fX4_copyData_L67 t_row k_L13 x1 x3 x4 x5 (0 : Int32) t_dataLength t_data
set_option maxHeartbeats 4000000 in
set_option maxRecDepth 100000 in
theorem wX4_copyData_L66 {p : Program} {l : Launch} {e : Env} {s : State} {m : MethodId} {args : Array Value} {below : List Frame} {meth : Method} {c : Code} {G : GT} {A : Nat → Prop} (C : cxt p s m args meth c cX4_copyData (some .boolean) 6 "OutStation$Incoming" wsX4_copyData G A) {a_t : Nat} {a_t_data : Nat} {a_t_row : Nat} {t_address : Int32} {t_master : Int32} {t_length : Int32} {t_control : Int32} {t_row : Nat → Int32} {k_L13 : Int32 → Int32 → Int32 → Int32 → Int32 → (Nat → Int32) → Option (Int32 × Int32 × (Nat → Int32))} {out : Int32 × Int32 × (Nat → Int32)} (hk_L13 : ∀ (x1 : Int32) (x2 : Int32) (x3 : Int32) (x4 : Int32) (t_dataLength : Int32) (t_data : Nat → Int32) (H : Heap) (locs : List Loc) (ls : Array Slot), k_L13 x1 x2 x3 x4 t_dataLength t_data = some out → va_P G.1 vwCl (wdX4_copyData G a_t a_t_data a_t_row t_address t_master t_length t_dataLength t_control t_data t_row) H → va_D A (wdX4_copyData G a_t a_t_data a_t_row t_address t_master t_length t_dataLength t_control t_data t_row) → va_S A s.heap H locs → lv_has ls 6 [(0, .ref a_t), (1, .int x1), (2, .int x2), (3, .int x3), (4, .int x4)] → W p l e rmX4_copyData s m args below meth c H locs 0 0 (MQ below (gQi G A out.1 (wdX4_copyData G a_t a_t_data a_t_row t_address t_master t_length out.2.1 t_control out.2.2 t_row)) args s 0 0 A) (F0 m 13 ls [])) : ∀ (x1 : Int32) (x3 : Int32) (x4 : Int32) (x5 : Int32) (t_dataLength : Int32) (t_data : Nat → Int32) (H : Heap) (locs : List Loc) (ls : Array Slot), fX4_copyData_L66 t_row k_L13 x1 x3 x4 x5 t_dataLength t_data = some out → va_P G.1 vwCl (wdX4_copyData G a_t a_t_data a_t_row t_address t_master t_length t_dataLength t_control t_data t_row) H → va_D A (wdX4_copyData G a_t a_t_data a_t_row t_address t_master t_length t_dataLength t_control t_data t_row) → va_S A s.heap H locs → lv_has ls 6 [(0, .ref a_t), (1, .int x1), (3, .int x3), (4, .int x4), (5, .int x5)] → W p l e rmX4_copyData s m args below meth c H locs 0 0 (MQ below (gQi G A out.1 (wdX4_copyData G a_t a_t_data a_t_row t_address t_master t_length out.2.1 t_control out.2.2 t_row)) args s 0 0 A) (F0 m 66 ls []) := by
  obtain ⟨hx, hb, hr, hml, hown, hts, hlocks, hA, hK⟩ := id C
  have hB : ∀ w ∈ BG, w.before args s = true := fun w h => hts w (List.mem_cons_of_mem _ h)
  intro x1 x3 x4 x5 t_dataLength t_data H locs ls h hP hD hS hl
  unfold fX4_copyData_L66 at h
  refine lv_iconst (v := (0 : Int32)) hx hb dX4_copyData_66 (by decide) ?_
  exact wX4_copyData_L67 C hk_L13 x1 x3 x4 x5 (0 : Int32) t_dataLength t_data _ _ _ h hP hD hS (lv_sub hl [0, 1, 2, 3, 4] rfl)
noncomputable def fX4_copyData_L13 (t_row : Nat → Int32) (n : Nat) : Int32 → Int32 → Int32 → Int32 → Int32 → (Nat → Int32) → Option (Int32 × Int32 × (Nat → Int32)) := Nat.rec (motive := fun _ => Int32 → Int32 → Int32 → Int32 → Int32 → (Nat → Int32) → Option (Int32 × Int32 × (Nat → Int32))) (fun _ _ _ _ _ _ => none) (fun _ k_L13 x1 x2 x3 x4 t_dataLength t_data => brc (x1 ≤ x4) (grd (isB x2) (some (x2, t_dataLength, t_data))) (grd (¬ x3 < 0 ∧ ¬ x4 < 0 ∧ ¬ (if (x1 - x4) < (16 : Int32) then (x1 - x4) else (16 : Int32)) < 0 ∧ ix x3 + ix (if (x1 - x4) < (16 : Int32) then (x1 - x4) else (16 : Int32)) ≤ 311 ∧ ix x4 + ix (if (x1 - x4) < (16 : Int32) then (x1 - x4) else (16 : Int32)) ≤ 250) (brc (x2 = 0) (fX4_copyData_L66 t_row k_L13 x1 x3 x4 (if (x1 - x4) < (16 : Int32) then (x1 - x4) else (16 : Int32)) t_dataLength (va_cpy t_row t_data (ix x3) (ix x4) (ix (if (x1 - x4) < (16 : Int32) then (x1 - x4) else (16 : Int32))))) (bnd (fX4_isCheckRight t_row x3 (x3 + (if (x1 - x4) < (16 : Int32) then (x1 - x4) else (16 : Int32)))) (fun u3 => brc (u3 = 0) (fX4_copyData_L66 t_row k_L13 x1 x3 x4 (if (x1 - x4) < (16 : Int32) then (x1 - x4) else (16 : Int32)) t_dataLength (va_cpy t_row t_data (ix x3) (ix x4) (ix (if (x1 - x4) < (16 : Int32) then (x1 - x4) else (16 : Int32))))) (fX4_copyData_L67 t_row k_L13 x1 x3 x4 (if (x1 - x4) < (16 : Int32) then (x1 - x4) else (16 : Int32)) (1 : Int32) t_dataLength (va_cpy t_row t_data (ix x3) (ix x4) (ix (if (x1 - x4) < (16 : Int32) then (x1 - x4) else (16 : Int32)))))))))) n
set_option maxHeartbeats 4000000 in
set_option maxRecDepth 100000 in
theorem wX4_copyData_L13 {p : Program} {l : Launch} {e : Env} {s : State} {m : MethodId} {args : Array Value} {below : List Frame} {meth : Method} {c : Code} {G : GT} {A : Nat → Prop} (C : cxt p s m args meth c cX4_copyData (some .boolean) 6 "OutStation$Incoming" wsX4_copyData G A) {a_t : Nat} {a_t_data : Nat} {a_t_row : Nat} {t_address : Int32} {t_master : Int32} {t_length : Int32} {t_control : Int32} {t_row : Nat → Int32} {out : Int32 × Int32 × (Nat → Int32)} : ∀ (n : Nat) (x1 : Int32) (x2 : Int32) (x3 : Int32) (x4 : Int32) (t_dataLength : Int32) (t_data : Nat → Int32) (H : Heap) (locs : List Loc) (ls : Array Slot), fX4_copyData_L13 t_row n x1 x2 x3 x4 t_dataLength t_data = some out → va_P G.1 vwCl (wdX4_copyData G a_t a_t_data a_t_row t_address t_master t_length t_dataLength t_control t_data t_row) H → va_D A (wdX4_copyData G a_t a_t_data a_t_row t_address t_master t_length t_dataLength t_control t_data t_row) → va_S A s.heap H locs → lv_has ls 6 [(0, .ref a_t), (1, .int x1), (2, .int x2), (3, .int x3), (4, .int x4)] → W p l e rmX4_copyData s m args below meth c H locs 0 0 (MQ below (gQi G A out.1 (wdX4_copyData G a_t a_t_data a_t_row t_address t_master t_length out.2.1 t_control out.2.2 t_row)) args s 0 0 A) (F0 m 13 ls []) := by
  obtain ⟨hx, hb, hr, hml, hown, hts, hlocks, hA, hK⟩ := id C
  have hB : ∀ w ∈ BG, w.before args s = true := fun w h => hts w (List.mem_cons_of_mem _ h)
  intro n
  induction n with
  | zero =>
    intro x1 x2 x3 x4 t_dataLength t_data H locs ls h hP hD hS hl
    cases h
  | succ n ih =>
    intro x1 x2 x3 x4 t_dataLength t_data H locs ls h hP hD hS hl
    replace h : brc (x1 ≤ x4) (grd (isB x2) (some (x2, t_dataLength, t_data))) (grd (¬ x3 < 0 ∧ ¬ x4 < 0 ∧ ¬ (if (x1 - x4) < (16 : Int32) then (x1 - x4) else (16 : Int32)) < 0 ∧ ix x3 + ix (if (x1 - x4) < (16 : Int32) then (x1 - x4) else (16 : Int32)) ≤ 311 ∧ ix x4 + ix (if (x1 - x4) < (16 : Int32) then (x1 - x4) else (16 : Int32)) ≤ 250) (brc (x2 = 0) (fX4_copyData_L66 t_row (fX4_copyData_L13 t_row n) x1 x3 x4 (if (x1 - x4) < (16 : Int32) then (x1 - x4) else (16 : Int32)) t_dataLength (va_cpy t_row t_data (ix x3) (ix x4) (ix (if (x1 - x4) < (16 : Int32) then (x1 - x4) else (16 : Int32))))) (bnd (fX4_isCheckRight t_row x3 (x3 + (if (x1 - x4) < (16 : Int32) then (x1 - x4) else (16 : Int32)))) (fun u3 => brc (u3 = 0) (fX4_copyData_L66 t_row (fX4_copyData_L13 t_row n) x1 x3 x4 (if (x1 - x4) < (16 : Int32) then (x1 - x4) else (16 : Int32)) t_dataLength (va_cpy t_row t_data (ix x3) (ix x4) (ix (if (x1 - x4) < (16 : Int32) then (x1 - x4) else (16 : Int32))))) (fX4_copyData_L67 t_row (fX4_copyData_L13 t_row n) x1 x3 x4 (if (x1 - x4) < (16 : Int32) then (x1 - x4) else (16 : Int32)) (1 : Int32) t_dataLength (va_cpy t_row t_data (ix x3) (ix x4) (ix (if (x1 - x4) < (16 : Int32) then (x1 - x4) else (16 : Int32))))))))) = some out := h
    refine lv_iload hx hb dX4_copyData_13 (lv_at hl 4 rfl) ?_
    refine lv_iload_n hx hb dX4_copyData_15 rfl (lv_at hl 1 rfl) ?_
    refine lv_icmp_ge (tgt := 81) hx hb dX4_copyData_16 (by decide) (fun hc16 => ?_) (fun hc16 => ?_)
    · have h := brc_tt h hc16
      refine lv_iload_n hx hb dX4_copyData_81 rfl (lv_at hl 2 rfl) ?_
      obtain ⟨hg1, h⟩ := grd_some h
      obtain rfl := Option.some.inj h
      exact W.zret (v := x2) hx hb hr (isB_nar hg1) (fun t ht hW => ⟨⟨_, (), rfl, rfl, by rw [ht]; exact hP, hD⟩, hS.F ht⟩) hS.2.2 dX4_copyData_82
    · have h := brc_ff h hc16
      refine lv_bipush (v := (16 : Int32)) hx hb dX4_copyData_19 (by decide) ?_
      refine lv_iload_n hx hb dX4_copyData_21 rfl (lv_at hl 1 rfl) ?_
      refine lv_iload hx hb dX4_copyData_22 (lv_at hl 4 rfl) ?_
      refine lv_isub hx hb dX4_copyData_24 ?_
      refine va_mmin hx hb (hml.trans hl.1.symm) hown (hB _ kw454) (hB _ kw219) (hB _ kw54) (hB _ kw220) (Nat.le_of_ble_eq_true rfl) (Nat.le_of_ble_eq_true rfl) (Nat.le_of_ble_eq_true rfl) (Nat.le_of_ble_eq_true rfl) dX4_copyData_25 ?_
      refine lv_istore (lv' := [(5, .int (if (x1 - x4) < (16 : Int32) then (x1 - x4) else (16 : Int32))), (0, .ref a_t), (1, .int x1), (2, .int x2), (3, .int x3), (4, .int x4)]) hx hb dX4_copyData_28 hl (by decide) rfl (fun ls hl => ?_)
      refine lv_aload_n hx hb dX4_copyData_30 rfl (lv_at hl 1 rfl) ?_
      refine va_get (D := G.1) (ci := 4) (v := .ref a_t_row) (C := RX4) (T := TX4) (N := 7) hx hb hB iX4 hown hK.1 hP 0 rfl rfl 2 (by decide) (hB _ kw81) (fun _ h9 => h9) rfl dX4_copyData_31 ?_
      refine lv_iload_n hx hb dX4_copyData_34 rfl (lv_at hl 4 rfl) ?_
      refine lv_aload_n hx hb dX4_copyData_35 rfl (lv_at hl 1 rfl) ?_
      refine va_get (D := G.1) (ci := 4) (v := .ref a_t_data) (C := RX4) (T := TX4) (N := 7) hx hb hB iX4 hown hK.1 hP 0 rfl rfl 4 (by decide) (hB _ kw83) (fun _ h9 => h9) rfl dX4_copyData_36 ?_
      refine lv_iload hx hb dX4_copyData_39 (lv_at hl 5 rfl) ?_
      refine lv_iload hx hb dX4_copyData_41 (lv_at hl 0 rfl) ?_
      obtain ⟨hg2, h⟩ := grd_some h
      refine va_copyi hx hb (hml.trans hl.1.symm) hown (hB _ kw455) (hB _ kw457) (hB _ kw456) (hB _ kw62) hK.1 hP hD hS 2 1 0 0 rfl rfl rfl rfl rfl hg2.1 hg2.2.1 hg2.2.2.1 hg2.2.2.2.1 hg2.2.2.2.2 (fun _ _ => rfl) (Nat.le_of_ble_eq_true rfl) (Nat.le_of_ble_eq_true rfl) dX4_copyData_43 (fun H locs hP hD hS => ?_)
      have hP : va_P G.1 vwCl (wdX4_copyData G a_t a_t_data a_t_row t_address t_master t_length t_dataLength t_control (va_cpy t_row t_data (ix x3) (ix x4) (ix (if (x1 - x4) < (16 : Int32) then (x1 - x4) else (16 : Int32)))) t_row) H := hP
      have hD : va_D A (wdX4_copyData G a_t a_t_data a_t_row t_address t_master t_length t_dataLength t_control (va_cpy t_row t_data (ix x3) (ix x4) (ix (if (x1 - x4) < (16 : Int32) then (x1 - x4) else (16 : Int32)))) t_row) := hD
      refine lv_iload_n hx hb dX4_copyData_46 rfl (lv_at hl 3 rfl) ?_
      refine lv_if_eq (tgt := 66) hx hb dX4_copyData_47 (by decide) (fun hc47 => ?_) (fun hc47 => ?_)
      · have h := brc_tt h hc47
        exact wX4_copyData_L66 C ih x1 x3 x4 (if (x1 - x4) < (16 : Int32) then (x1 - x4) else (16 : Int32)) t_dataLength (va_cpy t_row t_data (ix x3) (ix x4) (ix (if (x1 - x4) < (16 : Int32) then (x1 - x4) else (16 : Int32)))) _ _ _ h hP hD hS (lv_sub hl [1, 2, 4, 5, 0] rfl)
      · have h := brc_ff h hc47
        refine lv_aload_n hx hb dX4_copyData_50 rfl (lv_at hl 1 rfl) ?_
        refine lv_iload_n hx hb dX4_copyData_51 rfl (lv_at hl 4 rfl) ?_
        refine lv_iload_n hx hb dX4_copyData_52 rfl (lv_at hl 4 rfl) ?_
        refine lv_iload hx hb dX4_copyData_53 (lv_at hl 0 rfl) ?_
        refine lv_iadd hx hb dX4_copyData_55 ?_
        obtain ⟨u3, hu3, h⟩ := bnd_some h
        have hPc := hP.sub (ws' := (wdX4_isCheckRight G a_t a_t_row a_t_data t_address t_master t_length t_dataLength t_control t_row)) [0, 2] rfl
        have hDc := hD.sub (ws' := (wdX4_isCheckRight G a_t a_t_row a_t_data t_address t_master t_length t_dataLength t_control t_row)) [0, 2] (by decide) rfl
        refine g_i (wc := (wdX4_isCheckRight G a_t a_t_row a_t_data t_address t_master t_length t_dataLength t_control t_row)) (w1 := (wdX4_isCheckRight G a_t a_t_row a_t_data t_address t_master t_length t_dataLength t_control t_row)) (w2 := (wdX4_copyData G a_t a_t_data a_t_row t_address t_master t_length t_dataLength t_control (va_cpy t_row t_data (ix x3) (ix x4) (ix (if (x1 - x4) < (16 : Int32) then (x1 - x4) else (16 : Int32)))) t_row)) (va_runV (As := [.int x3, .int (x3 + (if (x1 - x4) < (16 : Int32) then (x1 - x4) else (16 : Int32)))]) (rest := []) ⟨hx, hb, hml, hown, hts⟩ (mX4_isCheckRight l G a_t a_t_row a_t_data t_address t_master t_length t_dataLength t_control t_row x3 (x3 + (if (x1 - x4) < (16 : Int32) then (x1 - x4) else (16 : Int32))) H.size u3 hu3) ⟨(callB_of 2 hts (bgIn kw431) rfl rfl rfl (hB _ kw47) (hB _ kw428) hdX4_isCheckRight ⟨(Nat.le_of_ble_eq_true rfl), (Nat.le_of_ble_eq_true rfl)⟩), hB _ kw430, hB _ kw2⟩ (gPreV (ci := 4) (qr := 0) hK hPc hDc rfl rfl rfl) rfl rfl hl.1 rfl (lv_room (Nat.le_of_ble_eq_true rfl)) dX4_copyData_56 ⟨(Nat.le_of_ble_eq_true rfl), (Nat.le_of_ble_eq_true rfl)⟩) hP hD hS hA [0, 2] rfl rfl [.inr 0, .inl 1, .inr 1] rfl rfl (fun H locs hP hD hS => ?_)
        refine lv_if_eq (tgt := 66) hx hb dX4_copyData_59 (by decide) (fun hc59 => ?_) (fun hc59 => ?_)
        · have h := brc_tt h hc59
          exact wX4_copyData_L66 C ih x1 x3 x4 (if (x1 - x4) < (16 : Int32) then (x1 - x4) else (16 : Int32)) t_dataLength (va_cpy t_row t_data (ix x3) (ix x4) (ix (if (x1 - x4) < (16 : Int32) then (x1 - x4) else (16 : Int32)))) _ _ _ h hP hD hS (lv_sub hl [1, 2, 4, 5, 0] rfl)
        · have h := brc_ff h hc59
          refine lv_iconst (v := (1 : Int32)) hx hb dX4_copyData_62 (by decide) ?_
          refine lv_goto (tgt := 67) hx hb dX4_copyData_63 (by decide) ?_
          exact wX4_copyData_L67 C ih x1 x3 x4 (if (x1 - x4) < (16 : Int32) then (x1 - x4) else (16 : Int32)) (1 : Int32) t_dataLength (va_cpy t_row t_data (ix x3) (ix x4) (ix (if (x1 - x4) < (16 : Int32) then (x1 - x4) else (16 : Int32)))) _ _ _ h hP hD hS (lv_sub hl [1, 2, 4, 5, 0] rfl)
noncomputable def fX4_copyData (t_row : Nat → Int32) (x1 : Int32) (t_dataLength : Int32) (t_data : Nat → Int32) : Option (Int32 × Int32 × (Nat → Int32)) := fX4_copyData_L13 t_row FU x1 (1 : Int32) (10 : Int32) (0 : Int32) x1 t_data
set_option maxHeartbeats 4000000 in
set_option maxRecDepth 100000 in
theorem wX4_copyData_E {p : Program} {l : Launch} {e : Env} {s : State} {m : MethodId} {args : Array Value} {below : List Frame} {meth : Method} {c : Code} {G : GT} {A : Nat → Prop} (C : cxt p s m args meth c cX4_copyData (some .boolean) 6 "OutStation$Incoming" wsX4_copyData G A) {a_t : Nat} {a_t_data : Nat} {a_t_row : Nat} {t_address : Int32} {t_master : Int32} {t_length : Int32} {t_control : Int32} {t_row : Nat → Int32} {out : Int32 × Int32 × (Nat → Int32)} : ∀ (x1 : Int32) (t_dataLength : Int32) (t_data : Nat → Int32) (H : Heap) (locs : List Loc) (ls : Array Slot), fX4_copyData t_row x1 t_dataLength t_data = some out → va_P G.1 vwCl (wdX4_copyData G a_t a_t_data a_t_row t_address t_master t_length t_dataLength t_control t_data t_row) H → va_D A (wdX4_copyData G a_t a_t_data a_t_row t_address t_master t_length t_dataLength t_control t_data t_row) → va_S A s.heap H locs → lv_has ls 6 [(0, .ref a_t), (1, .int x1)] → W p l e rmX4_copyData s m args below meth c H locs 0 0 (MQ below (gQi G A out.1 (wdX4_copyData G a_t a_t_data a_t_row t_address t_master t_length out.2.1 t_control out.2.2 t_row)) args s 0 0 A) (F0 m 0 ls []) := by
  obtain ⟨hx, hb, hr, hml, hown, hts, hlocks, hA, hK⟩ := id C
  have hB : ∀ w ∈ BG, w.before args s = true := fun w h => hts w (List.mem_cons_of_mem _ h)
  intro x1 t_dataLength t_data H locs ls h hP hD hS hl
  unfold fX4_copyData at h
  refine lv_iconst (v := (1 : Int32)) hx hb dX4_copyData_0 (by decide) ?_
  refine lv_istore_n (lv' := [(2, .int (1 : Int32)), (0, .ref a_t), (1, .int x1)]) hx hb dX4_copyData_1 rfl hl (by decide) rfl (fun ls hl => ?_)
  refine lv_bipush (v := (10 : Int32)) hx hb dX4_copyData_2 (by decide) ?_
  refine lv_istore_n (lv' := [(3, .int (10 : Int32)), (2, .int (1 : Int32)), (0, .ref a_t), (1, .int x1)]) hx hb dX4_copyData_4 rfl hl (by decide) rfl (fun ls hl => ?_)
  refine lv_aload_n hx hb dX4_copyData_5 rfl (lv_at hl 2 rfl) ?_
  refine lv_iload_n hx hb dX4_copyData_6 rfl (lv_at hl 3 rfl) ?_
  refine va_put (D := G.1) (ci := 4) (v := .int x1) (ty := .int) (C := RX4) (T := TX4) (N := 7) hx hb hB iX4 tyX4 tyX4_ok nmX4 hown hK.1 hP hD hS 0 rfl rfl 5 (by decide) (hB _ kw84) (fun _ h9 => h9) rfl (by decide +kernel) rfl rfl (Nat.le_of_ble_eq_true rfl) dX4_copyData_7 (fun H locs hP hD hS => ?_)
  have hP : va_P G.1 vwCl (wdX4_copyData G a_t a_t_data a_t_row t_address t_master t_length x1 t_control t_data t_row) H := hP
  have hD : va_D A (wdX4_copyData G a_t a_t_data a_t_row t_address t_master t_length x1 t_control t_data t_row) := hD
  refine lv_iconst (v := (0 : Int32)) hx hb dX4_copyData_10 (by decide) ?_
  refine lv_istore (lv' := [(4, .int (0 : Int32)), (3, .int (10 : Int32)), (2, .int (1 : Int32)), (0, .ref a_t), (1, .int x1)]) hx hb dX4_copyData_11 hl (by decide) rfl (fun ls hl => ?_)
  exact wX4_copyData_L13 C FU x1 (1 : Int32) (10 : Int32) (0 : Int32) x1 t_data _ _ _ h hP hD hS (lv_sub hl [3, 4, 2, 1, 0] rfl)
set_option maxHeartbeats 4000000 in
set_option maxRecDepth 100000 in
theorem mX4_copyData (l : Launch) (G : GT) (a_t : Nat) (a_t_data : Nat) (a_t_row : Nat) (t_address : Int32) (t_master : Int32) (t_length : Int32) (t_control : Int32) (t_row : Nat → Int32) (x1 : Int32) (t_dataLength : Int32) (t_data : Nat → Int32) (sz : Nat) (out : Int32 × Int32 × (Nat → Int32)) (h : fX4_copyData t_row x1 t_dataLength t_data = some out) : Met l yX4_copyData wsX4_copyData rmX4_copyData (gPc G [.ref a_t, .int x1] sz (wdX4_copyData G a_t a_t_data a_t_row t_address t_master t_length t_dataLength t_control t_data t_row)) (gQi G (va_A (wdX4_copyData G a_t a_t_data a_t_row t_address t_master t_length t_dataLength t_control t_data t_row) sz) out.1 (wdX4_copyData G a_t a_t_data a_t_row t_address t_master t_length out.2.1 t_control out.2.2 t_row)) 0 0 (va_A (wdX4_copyData G a_t a_t_data a_t_row t_address t_master t_length t_dataLength t_control t_data t_row) sz) := by
  refine Met.ofW (cc := cX4_copyData) (maxL := 6) (ret := (some .boolean)) (by decide) rfl ?_
  intro p e s m args below meth c s₁ B hml hv
  obtain ⟨rfl, hsz, hP, hK, hD0⟩ := hv
  have hts := atoms_spec (ws := wsX4_copyData) B.pre
  have hown : s.vm.findClass "OutStation$Incoming" = some m.cls := findClass_of_methodNamed B.named
  subst hsz
  have hD := hD0.self (sz := s.heap.size)
  generalize hAe : va_A (wdX4_copyData G a_t a_t_data a_t_row t_address t_master t_length t_dataLength t_control t_data t_row) s.heap.size = A at hD ⊢
  have hA : ∀ q : Nat, s.heap.size ≤ q → A q := fun q h => by rw [← hAe]; exact Or.inr h
  have hS : va_S A s.heap s.heap [] := va_S.rf
  have hl := lv_entry ([.ref a_t, .int x1]) (n := 6) (Nat.le_of_ble_eq_true rfl)
  rw [lg_entry_eq]
  generalize (lg_sl ([.ref a_t, .int x1]) ++ List.replicate (6 - (lg_sl ([.ref a_t, .int x1])).length) Slot.unset).toArray = ls at hl ⊢
  exact wX4_copyData_E ⟨B.exec, B.bytes, B.returns, hml, hown, hts, B.notSynchronized, hA, hK⟩ x1 t_dataLength t_data _ _ _ h hP hD hS hl
/-! ### OutStation$Incoming.drop (I)V -/
abbrev wdX4_drop (G : GT) (a_t : Nat) (a_t_row : Nat) (a_t_data : Nat) (t_address : Int32) (t_master : Int32) (t_length : Int32) (t_dataLength : Int32) (t_control : Int32) (t_row : Nat → Int32) : va_W := [(a_t, .inr (4, [.int t_address, .int t_master, .ref a_t_row, .int t_length, .ref a_t_data, .int t_dataLength, .int t_control])), (a_t_row, .inl (G.2.1, 311, .inl t_row))]
abbrev wsX4_drop : List Cond := .code yX4_drop cX4_drop 2 none :: BG
abbrev rmX4_drop : Room := { frames := 1, cells := 0, slots := 0, locals := 30 }
noncomputable def fX4_drop (x1 : Int32) (t_length : Int32) (t_row : Nat → Int32) : Option (Int32 × (Nat → Int32)) := grd (¬ x1 < 0 ∧ ¬ (0 : Int32) < 0 ∧ ¬ (t_length - x1) < 0 ∧ ix x1 + ix (t_length - x1) ≤ 311 ∧ ix (0 : Int32) + ix (t_length - x1) ≤ 311) (some ((t_length - x1), (va_cpy t_row t_row (ix x1) (ix (0 : Int32)) (ix (t_length - x1)))))
set_option maxHeartbeats 4000000 in
set_option maxRecDepth 100000 in
theorem wX4_drop_E {p : Program} {l : Launch} {e : Env} {s : State} {m : MethodId} {args : Array Value} {below : List Frame} {meth : Method} {c : Code} {G : GT} {A : Nat → Prop} (C : cxt p s m args meth c cX4_drop none 2 "OutStation$Incoming" wsX4_drop G A) {a_t : Nat} {a_t_row : Nat} {a_t_data : Nat} {t_address : Int32} {t_master : Int32} {t_dataLength : Int32} {t_control : Int32} {out : Int32 × (Nat → Int32)} : ∀ (x1 : Int32) (t_length : Int32) (t_row : Nat → Int32) (H : Heap) (locs : List Loc) (ls : Array Slot), fX4_drop x1 t_length t_row = some out → va_P G.1 vwCl (wdX4_drop G a_t a_t_row a_t_data t_address t_master t_length t_dataLength t_control t_row) H → va_D A (wdX4_drop G a_t a_t_row a_t_data t_address t_master t_length t_dataLength t_control t_row) → va_S A s.heap H locs → lv_has ls 2 [(0, .ref a_t), (1, .int x1)] → W p l e rmX4_drop s m args below meth c H locs 0 0 (MQ below (gQv G A (wdX4_drop G a_t a_t_row a_t_data t_address t_master out.1 t_dataLength t_control out.2)) args s 0 0 A) (F0 m 0 ls []) := by
  obtain ⟨hx, hb, hr, hml, hown, hts, hlocks, hA, hK⟩ := id C
  have hB : ∀ w ∈ BG, w.before args s = true := fun w h => hts w (List.mem_cons_of_mem _ h)
  intro x1 t_length t_row H locs ls h hP hD hS hl
  unfold fX4_drop at h
  refine lv_aload_n hx hb dX4_drop_0 rfl (lv_at hl 0 rfl) ?_
  refine lv_dup hx hb dX4_drop_1 rfl ?_
  refine va_get (D := G.1) (ci := 4) (v := .int t_length) (C := RX4) (T := TX4) (N := 7) hx hb hB iX4 hown hK.1 hP 0 rfl rfl 3 (by decide) (hB _ kw82) (fun _ h9 => h9) rfl dX4_drop_2 ?_
  refine lv_iload_n hx hb dX4_drop_5 rfl (lv_at hl 1 rfl) ?_
  refine lv_isub hx hb dX4_drop_6 ?_
  refine va_put (D := G.1) (ci := 4) (v := .int (t_length - x1)) (ty := .int) (C := RX4) (T := TX4) (N := 7) hx hb hB iX4 tyX4 tyX4_ok nmX4 hown hK.1 hP hD hS 0 rfl rfl 3 (by decide) (hB _ kw82) (fun _ h9 => h9) rfl (by decide +kernel) rfl rfl (Nat.le_of_ble_eq_true rfl) dX4_drop_7 (fun H locs hP hD hS => ?_)
  have hP : va_P G.1 vwCl (wdX4_drop G a_t a_t_row a_t_data t_address t_master (t_length - x1) t_dataLength t_control t_row) H := hP
  have hD : va_D A (wdX4_drop G a_t a_t_row a_t_data t_address t_master (t_length - x1) t_dataLength t_control t_row) := hD
  refine lv_aload_n hx hb dX4_drop_10 rfl (lv_at hl 0 rfl) ?_
  refine va_get (D := G.1) (ci := 4) (v := .ref a_t_row) (C := RX4) (T := TX4) (N := 7) hx hb hB iX4 hown hK.1 hP 0 rfl rfl 2 (by decide) (hB _ kw81) (fun _ h9 => h9) rfl dX4_drop_11 ?_
  refine lv_iload_n hx hb dX4_drop_14 rfl (lv_at hl 1 rfl) ?_
  refine lv_aload_n hx hb dX4_drop_15 rfl (lv_at hl 0 rfl) ?_
  refine va_get (D := G.1) (ci := 4) (v := .ref a_t_row) (C := RX4) (T := TX4) (N := 7) hx hb hB iX4 hown hK.1 hP 0 rfl rfl 2 (by decide) (hB _ kw81) (fun _ h9 => h9) rfl dX4_drop_16 ?_
  refine lv_iconst (v := (0 : Int32)) hx hb dX4_drop_19 (by decide) ?_
  refine lv_aload_n hx hb dX4_drop_20 rfl (lv_at hl 0 rfl) ?_
  refine va_get (D := G.1) (ci := 4) (v := .int (t_length - x1)) (C := RX4) (T := TX4) (N := 7) hx hb hB iX4 hown hK.1 hP 0 rfl rfl 3 (by decide) (hB _ kw82) (fun _ h9 => h9) rfl dX4_drop_21 ?_
  obtain ⟨hg1, h⟩ := grd_some h
  refine va_copyi hx hb (hml.trans hl.1.symm) hown (hB _ kw455) (hB _ kw457) (hB _ kw456) (hB _ kw62) hK.1 hP hD hS 1 1 0 0 rfl rfl rfl rfl rfl hg1.1 hg1.2.1 hg1.2.2.1 hg1.2.2.2.1 hg1.2.2.2.2 (fun _ _ => rfl) (Nat.le_of_ble_eq_true rfl) (Nat.le_of_ble_eq_true rfl) dX4_drop_24 (fun H locs hP hD hS => ?_)
  have hP : va_P G.1 vwCl (wdX4_drop G a_t a_t_row a_t_data t_address t_master (t_length - x1) t_dataLength t_control (va_cpy t_row t_row (ix x1) (ix (0 : Int32)) (ix (t_length - x1)))) H := hP
  have hD : va_D A (wdX4_drop G a_t a_t_row a_t_data t_address t_master (t_length - x1) t_dataLength t_control (va_cpy t_row t_row (ix x1) (ix (0 : Int32)) (ix (t_length - x1)))) := hD
  obtain rfl := Option.some.inj h
  exact W.vret hx hb hr (fun t ht hW => ⟨⟨(), rfl, trivial, by rw [ht]; exact hP, hD⟩, hS.F ht⟩) hS.2.2 dX4_drop_27
set_option maxHeartbeats 4000000 in
set_option maxRecDepth 100000 in
theorem mX4_drop (l : Launch) (G : GT) (a_t : Nat) (a_t_row : Nat) (a_t_data : Nat) (t_address : Int32) (t_master : Int32) (t_dataLength : Int32) (t_control : Int32) (x1 : Int32) (t_length : Int32) (t_row : Nat → Int32) (sz : Nat) (out : Int32 × (Nat → Int32)) (h : fX4_drop x1 t_length t_row = some out) : Met l yX4_drop wsX4_drop rmX4_drop (gPc G [.ref a_t, .int x1] sz (wdX4_drop G a_t a_t_row a_t_data t_address t_master t_length t_dataLength t_control t_row)) (gQv G (va_A (wdX4_drop G a_t a_t_row a_t_data t_address t_master t_length t_dataLength t_control t_row) sz) (wdX4_drop G a_t a_t_row a_t_data t_address t_master out.1 t_dataLength t_control out.2)) 0 0 (va_A (wdX4_drop G a_t a_t_row a_t_data t_address t_master t_length t_dataLength t_control t_row) sz) := by
  refine Met.ofW (cc := cX4_drop) (maxL := 2) (ret := none) (by decide) rfl ?_
  intro p e s m args below meth c s₁ B hml hv
  obtain ⟨rfl, hsz, hP, hK, hD0⟩ := hv
  have hts := atoms_spec (ws := wsX4_drop) B.pre
  have hown : s.vm.findClass "OutStation$Incoming" = some m.cls := findClass_of_methodNamed B.named
  subst hsz
  have hD := hD0.self (sz := s.heap.size)
  generalize hAe : va_A (wdX4_drop G a_t a_t_row a_t_data t_address t_master t_length t_dataLength t_control t_row) s.heap.size = A at hD ⊢
  have hA : ∀ q : Nat, s.heap.size ≤ q → A q := fun q h => by rw [← hAe]; exact Or.inr h
  have hS : va_S A s.heap s.heap [] := va_S.rf
  have hl := lv_entry ([.ref a_t, .int x1]) (n := 2) (Nat.le_of_ble_eq_true rfl)
  rw [lg_entry_eq]
  generalize (lg_sl ([.ref a_t, .int x1]) ++ List.replicate (2 - (lg_sl ([.ref a_t, .int x1])).length) Slot.unset).toArray = ls at hl ⊢
  exact wX4_drop_E ⟨B.exec, B.bytes, B.returns, hml, hown, hts, B.notSynchronized, hA, hK⟩ x1 t_length t_row _ _ _ h hP hD hS hl
/-! ### OutStation$Incoming.takeFrame ()I -/
abbrev wdX4_takeFrame (G : GT) (a_t : Nat) (a_t_data : Nat) (a_t_row : Nat) (t_address : Int32) (t_master : Int32) (t_length : Int32) (t_dataLength : Int32) (t_control : Int32) (t_data : Nat → Int32) (t_row : Nat → Int32) : va_W := [(a_t, .inr (4, [.int t_address, .int t_master, .ref a_t_row, .int t_length, .ref a_t_data, .int t_dataLength, .int t_control])), (a_t_data, .inl (G.2.1, 250, .inl t_data)), (a_t_row, .inl (G.2.1, 311, .inl t_row))]
abbrev wsX4_takeFrame : List Cond := .code yX4_takeFrame cX4_takeFrame 3 (some .int) :: BG
abbrev rmX4_takeFrame : Room := { frames := 4, cells := 0, slots := 0, locals := 94 }
noncomputable def fX4_takeFrame_L94 (t_address : Int32) (t_master : Int32) (s0 : Int32) (t_length : Int32) (t_dataLength : Int32) (t_control : Int32) (t_data : Nat → Int32) (t_row : Nat → Int32) : Option (Int32 × Int32 × Int32 × Int32 × (Nat → Int32) × (Nat → Int32)) := some (s0, t_length, t_dataLength, t_control, t_data, t_row)
set_option maxHeartbeats 4000000 in
set_option maxRecDepth 100000 in
theorem wX4_takeFrame_L94 {p : Program} {l : Launch} {e : Env} {s : State} {m : MethodId} {args : Array Value} {below : List Frame} {meth : Method} {c : Code} {G : GT} {A : Nat → Prop} (C : cxt p s m args meth c cX4_takeFrame (some .int) 3 "OutStation$Incoming" wsX4_takeFrame G A) {a_t : Nat} {a_t_data : Nat} {a_t_row : Nat} {t_address : Int32} {t_master : Int32} {out : Int32 × Int32 × Int32 × Int32 × (Nat → Int32) × (Nat → Int32)} : ∀ (s0 : Int32) (t_length : Int32) (t_dataLength : Int32) (t_control : Int32) (t_data : Nat → Int32) (t_row : Nat → Int32) (H : Heap) (locs : List Loc) (ls : Array Slot), fX4_takeFrame_L94 t_address t_master s0 t_length t_dataLength t_control t_data t_row = some out → va_P G.1 vwCl (wdX4_takeFrame G a_t a_t_data a_t_row t_address t_master t_length t_dataLength t_control t_data t_row) H → va_D A (wdX4_takeFrame G a_t a_t_data a_t_row t_address t_master t_length t_dataLength t_control t_data t_row) → va_S A s.heap H locs → lv_has ls 3 [] → W p l e rmX4_takeFrame s m args below meth c H locs 0 0 (MQ below (gQi G A out.1 (wdX4_takeFrame G a_t a_t_data a_t_row t_address t_master out.2.1 out.2.2.1 out.2.2.2.1 out.2.2.2.2.1 out.2.2.2.2.2)) args s 0 0 A) (F0 m 94 ls [.int s0]) := by
  obtain ⟨hx, hb, hr, hml, hown, hts, hlocks, hA, hK⟩ := id C
  have hB : ∀ w ∈ BG, w.before args s = true := fun w h => hts w (List.mem_cons_of_mem _ h)
  intro s0 t_length t_dataLength t_control t_data t_row H locs ls h hP hD hS hl
  unfold fX4_takeFrame_L94 at h
  obtain rfl := Option.some.inj h
  exact W.iret (v := s0) hx hb hr (fun t ht hW => ⟨⟨_, (), rfl, rfl, by rw [ht]; exact hP, hD⟩, hS.F ht⟩) hS.2.2 dX4_takeFrame_94
noncomputable def fX4_takeFrame_L67 (t_address : Int32) (t_master : Int32) (x1 : Int32) (s0 : Int32) (t_length : Int32) (t_dataLength : Int32) (t_control : Int32) (t_data : Nat → Int32) (t_row : Nat → Int32) : Option (Int32 × Int32 × Int32 × Int32 × (Nat → Int32) × (Nat → Int32)) := bnd (fX9_frameLength t_dataLength) (fun u1 => bnd (fX4_drop u1 t_length t_row) (fun u2 => brc (x1 = 0) (some ((1 : Int32), u2.1, t_dataLength, t_control, t_data, u2.2)) (brc (s0 = 0) (fX4_takeFrame_L94 t_address t_master (2 : Int32) u2.1 t_dataLength t_control t_data u2.2) (fX4_takeFrame_L94 t_address t_master (3 : Int32) u2.1 t_dataLength t_control t_data u2.2))))
set_option maxHeartbeats 4000000 in
set_option maxRecDepth 100000 in
theorem wX4_takeFrame_L67 {p : Program} {l : Launch} {e : Env} {s : State} {m : MethodId} {args : Array Value} {below : List Frame} {meth : Method} {c : Code} {G : GT} {A : Nat → Prop} (C : cxt p s m args meth c cX4_takeFrame (some .int) 3 "OutStation$Incoming" wsX4_takeFrame G A) {a_t : Nat} {a_t_data : Nat} {a_t_row : Nat} {t_address : Int32} {t_master : Int32} {out : Int32 × Int32 × Int32 × Int32 × (Nat → Int32) × (Nat → Int32)} : ∀ (x1 : Int32) (s0 : Int32) (t_length : Int32) (t_dataLength : Int32) (t_control : Int32) (t_data : Nat → Int32) (t_row : Nat → Int32) (H : Heap) (locs : List Loc) (ls : Array Slot), fX4_takeFrame_L67 t_address t_master x1 s0 t_length t_dataLength t_control t_data t_row = some out → va_P G.1 vwCl (wdX4_takeFrame G a_t a_t_data a_t_row t_address t_master t_length t_dataLength t_control t_data t_row) H → va_D A (wdX4_takeFrame G a_t a_t_data a_t_row t_address t_master t_length t_dataLength t_control t_data t_row) → va_S A s.heap H locs → lv_has ls 3 [(0, .ref a_t), (1, .int x1)] → W p l e rmX4_takeFrame s m args below meth c H locs 0 0 (MQ below (gQi G A out.1 (wdX4_takeFrame G a_t a_t_data a_t_row t_address t_master out.2.1 out.2.2.1 out.2.2.2.1 out.2.2.2.2.1 out.2.2.2.2.2)) args s 0 0 A) (F0 m 67 ls [.int s0]) := by
  obtain ⟨hx, hb, hr, hml, hown, hts, hlocks, hA, hK⟩ := id C
  have hB : ∀ w ∈ BG, w.before args s = true := fun w h => hts w (List.mem_cons_of_mem _ h)
  intro x1 s0 t_length t_dataLength t_control t_data t_row H locs ls h hP hD hS hl
  unfold fX4_takeFrame_L67 at h
  refine lv_istore_n (lv' := [(2, .int s0), (0, .ref a_t), (1, .int x1)]) hx hb dX4_takeFrame_67 rfl hl (by decide) rfl (fun ls hl => ?_)
  refine lv_aload_n hx hb dX4_takeFrame_68 rfl (lv_at hl 1 rfl) ?_
  refine lv_aload_n hx hb dX4_takeFrame_69 rfl (lv_at hl 1 rfl) ?_
  refine va_get (D := G.1) (ci := 4) (v := .int t_dataLength) (C := RX4) (T := TX4) (N := 7) hx hb hB iX4 hown hK.1 hP 0 rfl rfl 5 (by decide) (hB _ kw84) (fun _ h9 => h9) rfl dX4_takeFrame_70 ?_
  obtain ⟨u1, hu1, h⟩ := bnd_some h
  have hPc := hP.sub (ws' := (wdX9_frameLength G)) [] rfl
  have hDc := hD.sub (ws' := (wdX9_frameLength G)) [] (by decide) rfl
  refine g_i (wc := (wdX9_frameLength G)) (w1 := (wdX9_frameLength G)) (w2 := (wdX4_takeFrame G a_t a_t_data a_t_row t_address t_master t_length t_dataLength t_control t_data t_row)) (va_runSN (As := [.int t_dataLength]) (rest := [.ref a_t]) ⟨hx, hb, hml, hown, hts⟩ (mX9_frameLength l G t_dataLength H.size u1 hu1) ⟨(va_cnB 1 hts (bgIn kw445) rfl rfl rfl (hK.2.1 ("OutStation$Incoming", 38, yX9_frameLength, "OutStation") (by decide +kernel)) (hB _ kw46) hdX9_frameLength ⟨(Nat.le_of_ble_eq_true rfl), (Nat.le_of_ble_eq_true rfl)⟩), hB _ kw444, trivial⟩ (gPreS hK hPc hDc) rfl rfl hl.1 rfl (lv_room (Nat.le_of_ble_eq_true rfl)) dX4_takeFrame_73 ⟨(Nat.le_of_ble_eq_true rfl), (Nat.le_of_ble_eq_true rfl)⟩) hP hD hS hA [] rfl rfl [.inl 0, .inl 1, .inl 2] rfl rfl (fun H locs hP hD hS => ?_)
  obtain ⟨u2, hu2, h⟩ := bnd_some h
  have hPc := hP.sub (ws' := (wdX4_drop G a_t a_t_row a_t_data t_address t_master t_length t_dataLength t_control t_row)) [0, 2] rfl
  have hDc := hD.sub (ws' := (wdX4_drop G a_t a_t_row a_t_data t_address t_master t_length t_dataLength t_control t_row)) [0, 2] (by decide) rfl
  refine g_v (wc := (wdX4_drop G a_t a_t_row a_t_data t_address t_master t_length t_dataLength t_control t_row)) (w1 := (wdX4_drop G a_t a_t_row a_t_data t_address t_master u2.1 t_dataLength t_control u2.2)) (w2 := (wdX4_takeFrame G a_t a_t_data a_t_row t_address t_master u2.1 t_dataLength t_control t_data u2.2)) (va_runV (As := [.int u1]) (rest := []) ⟨hx, hb, hml, hown, hts⟩ (mX4_drop l G a_t a_t_row a_t_data t_address t_master t_dataLength t_control u1 t_length t_row H.size u2 hu2) ⟨(callB_of 1 hts (bgIn kw461) rfl rfl rfl (hB _ kw47) (hB _ kw458) hdX4_drop ⟨(Nat.le_of_ble_eq_true rfl), (Nat.le_of_ble_eq_true rfl)⟩), hB _ kw460, hB _ kw6⟩ (gPreV (ci := 4) (qr := 0) hK hPc hDc rfl rfl rfl) rfl rfl hl.1 rfl (lv_room (Nat.le_of_ble_eq_true rfl)) dX4_takeFrame_76 ⟨(Nat.le_of_ble_eq_true rfl), (Nat.le_of_ble_eq_true rfl)⟩) hP hD hS hA [0, 2] rfl rfl [.inr 0, .inl 1, .inr 1] rfl rfl (fun H locs hP hD hS => ?_)
  refine lv_iload_n hx hb dX4_takeFrame_79 rfl (lv_at hl 2 rfl) ?_
  refine lv_if_ne (tgt := 85) hx hb dX4_takeFrame_80 (by decide) (fun hc80 => ?_) (fun hc80 => ?_)
  · have h := brc_ff h hc80
    refine lv_iload_n hx hb dX4_takeFrame_85 rfl (lv_at hl 0 rfl) ?_
    refine lv_if_eq (tgt := 93) hx hb dX4_takeFrame_86 (by decide) (fun hc86 => ?_) (fun hc86 => ?_)
    · have h := brc_tt h hc86
      refine lv_iconst (v := (2 : Int32)) hx hb dX4_takeFrame_93 (by decide) ?_
      exact wX4_takeFrame_L94 C (2 : Int32) u2.1 t_dataLength t_control t_data u2.2 _ _ _ h hP hD hS (lv_sub hl [] rfl)
    · have h := brc_ff h hc86
      refine lv_iconst (v := (3 : Int32)) hx hb dX4_takeFrame_89 (by decide) ?_
      refine lv_goto (tgt := 94) hx hb dX4_takeFrame_90 (by decide) ?_
      exact wX4_takeFrame_L94 C (3 : Int32) u2.1 t_dataLength t_control t_data u2.2 _ _ _ h hP hD hS (lv_sub hl [] rfl)
  · have h := brc_tt h hc80
    refine lv_iconst (v := (1 : Int32)) hx hb dX4_takeFrame_83 (by decide) ?_
    obtain rfl := Option.some.inj h
    exact W.iret (v := (1 : Int32)) hx hb hr (fun t ht hW => ⟨⟨_, (), rfl, rfl, by rw [ht]; exact hP, hD⟩, hS.F ht⟩) hS.2.2 dX4_takeFrame_84
noncomputable def fX4_takeFrame_L66 (t_address : Int32) (t_master : Int32) (x1 : Int32) (t_length : Int32) (t_dataLength : Int32) (t_control : Int32) (t_data : Nat → Int32) (t_row : Nat → Int32) : Option (Int32 × Int32 × Int32 × Int32 × (Nat → Int32) × (Nat → Int32)) := fX4_takeFrame_L67 t_address t_master x1 (0 : Int32) t_length t_dataLength t_control t_data t_row
set_option maxHeartbeats 4000000 in
set_option maxRecDepth 100000 in
theorem wX4_takeFrame_L66 {p : Program} {l : Launch} {e : Env} {s : State} {m : MethodId} {args : Array Value} {below : List Frame} {meth : Method} {c : Code} {G : GT} {A : Nat → Prop} (C : cxt p s m args meth c cX4_takeFrame (some .int) 3 "OutStation$Incoming" wsX4_takeFrame G A) {a_t : Nat} {a_t_data : Nat} {a_t_row : Nat} {t_address : Int32} {t_master : Int32} {out : Int32 × Int32 × Int32 × Int32 × (Nat → Int32) × (Nat → Int32)} : ∀ (x1 : Int32) (t_length : Int32) (t_dataLength : Int32) (t_control : Int32) (t_data : Nat → Int32) (t_row : Nat → Int32) (H : Heap) (locs : List Loc) (ls : Array Slot), fX4_takeFrame_L66 t_address t_master x1 t_length t_dataLength t_control t_data t_row = some out → va_P G.1 vwCl (wdX4_takeFrame G a_t a_t_data a_t_row t_address t_master t_length t_dataLength t_control t_data t_row) H → va_D A (wdX4_takeFrame G a_t a_t_data a_t_row t_address t_master t_length t_dataLength t_control t_data t_row) → va_S A s.heap H locs → lv_has ls 3 [(0, .ref a_t), (1, .int x1)] → W p l e rmX4_takeFrame s m args below meth c H locs 0 0 (MQ below (gQi G A out.1 (wdX4_takeFrame G a_t a_t_data a_t_row t_address t_master out.2.1 out.2.2.1 out.2.2.2.1 out.2.2.2.2.1 out.2.2.2.2.2)) args s 0 0 A) (F0 m 66 ls []) := by
  obtain ⟨hx, hb, hr, hml, hown, hts, hlocks, hA, hK⟩ := id C
  have hB : ∀ w ∈ BG, w.before args s = true := fun w h => hts w (List.mem_cons_of_mem _ h)
  intro x1 t_length t_dataLength t_control t_data t_row H locs ls h hP hD hS hl
  unfold fX4_takeFrame_L66 at h
  refine lv_iconst (v := (0 : Int32)) hx hb dX4_takeFrame_66 (by decide) ?_
  exact wX4_takeFrame_L67 C x1 (0 : Int32) t_length t_dataLength t_control t_data t_row _ _ _ h hP hD hS (lv_sub hl [0, 1] rfl)
noncomputable def fX4_takeFrame (t_address : Int32) (t_master : Int32) (t_length : Int32) (t_dataLength : Int32) (t_control : Int32) (t_data : Nat → Int32) (t_row : Nat → Int32) : Option (Int32 × Int32 × Int32 × Int32 × (Nat → Int32) × (Nat → Int32)) := bnd (fX4_copyData t_row ((t_row (ix (2 : Int32))) - (5 : Int32)) t_dataLength t_data) (fun u1 => bnd (fX4_twoAt t_row (4 : Int32)) (fun u2 => brc (u2 = t_address) (bnd (fX4_twoAt t_row (6 : Int32)) (fun u3 => brc (u3 = t_master) (brc (((t_row (ix (3 : Int32))) &&& (192 : Int32)) = (192 : Int32)) (fX4_takeFrame_L67 t_address t_master u1.1 (1 : Int32) t_length u1.2.1 (t_row (ix (3 : Int32))) u1.2.2 t_row) (fX4_takeFrame_L66 t_address t_master u1.1 t_length u1.2.1 (t_row (ix (3 : Int32))) u1.2.2 t_row)) (fX4_takeFrame_L66 t_address t_master u1.1 t_length u1.2.1 (t_row (ix (3 : Int32))) u1.2.2 t_row))) (fX4_takeFrame_L66 t_address t_master u1.1 t_length u1.2.1 (t_row (ix (3 : Int32))) u1.2.2 t_row)))
set_option maxHeartbeats 4000000 in
set_option maxRecDepth 100000 in
theorem wX4_takeFrame_E {p : Program} {l : Launch} {e : Env} {s : State} {m : MethodId} {args : Array Value} {below : List Frame} {meth : Method} {c : Code} {G : GT} {A : Nat → Prop} (C : cxt p s m args meth c cX4_takeFrame (some .int) 3 "OutStation$Incoming" wsX4_takeFrame G A) {a_t : Nat} {a_t_data : Nat} {a_t_row : Nat} {t_address : Int32} {t_master : Int32} {out : Int32 × Int32 × Int32 × Int32 × (Nat → Int32) × (Nat → Int32)} : ∀ (t_length : Int32) (t_dataLength : Int32) (t_control : Int32) (t_data : Nat → Int32) (t_row : Nat → Int32) (H : Heap) (locs : List Loc) (ls : Array Slot), fX4_takeFrame t_address t_master t_length t_dataLength t_control t_data t_row = some out → va_P G.1 vwCl (wdX4_takeFrame G a_t a_t_data a_t_row t_address t_master t_length t_dataLength t_control t_data t_row) H → va_D A (wdX4_takeFrame G a_t a_t_data a_t_row t_address t_master t_length t_dataLength t_control t_data t_row) → va_S A s.heap H locs → lv_has ls 3 [(0, .ref a_t)] → W p l e rmX4_takeFrame s m args below meth c H locs 0 0 (MQ below (gQi G A out.1 (wdX4_takeFrame G a_t a_t_data a_t_row t_address t_master out.2.1 out.2.2.1 out.2.2.2.1 out.2.2.2.2.1 out.2.2.2.2.2)) args s 0 0 A) (F0 m 0 ls []) := by
  obtain ⟨hx, hb, hr, hml, hown, hts, hlocks, hA, hK⟩ := id C
  have hB : ∀ w ∈ BG, w.before args s = true := fun w h => hts w (List.mem_cons_of_mem _ h)
  intro t_length t_dataLength t_control t_data t_row H locs ls h hP hD hS hl
  unfold fX4_takeFrame at h
  refine lv_aload_n hx hb dX4_takeFrame_0 rfl (lv_at hl 0 rfl) ?_
  refine lv_aload_n hx hb dX4_takeFrame_1 rfl (lv_at hl 0 rfl) ?_
  refine va_get (D := G.1) (ci := 4) (v := .ref a_t_row) (C := RX4) (T := TX4) (N := 7) hx hb hB iX4 hown hK.1 hP 0 rfl rfl 2 (by decide) (hB _ kw81) (fun _ h9 => h9) rfl dX4_takeFrame_2 ?_
  refine lv_iconst (v := (3 : Int32)) hx hb dX4_takeFrame_5 (by decide) ?_
  refine va_iald hx hb hK.1 hP 2 0 rfl rfl (vp_in_nI (n := 3) (N := 311) (by decide) (by decide)) dX4_takeFrame_6 ?_
  refine va_put (D := G.1) (ci := 4) (v := .int (t_row (ix (3 : Int32)))) (ty := .int) (C := RX4) (T := TX4) (N := 7) hx hb hB iX4 tyX4 tyX4_ok nmX4 hown hK.1 hP hD hS 0 rfl rfl 6 (by decide) (hB _ kw85) (fun _ h9 => h9) rfl (by decide +kernel) rfl rfl (Nat.le_of_ble_eq_true rfl) dX4_takeFrame_7 (fun H locs hP hD hS => ?_)
  have hP : va_P G.1 vwCl (wdX4_takeFrame G a_t a_t_data a_t_row t_address t_master t_length t_dataLength (t_row (ix (3 : Int32))) t_data t_row) H := hP
  have hD : va_D A (wdX4_takeFrame G a_t a_t_data a_t_row t_address t_master t_length t_dataLength (t_row (ix (3 : Int32))) t_data t_row) := hD
  refine lv_aload_n hx hb dX4_takeFrame_10 rfl (lv_at hl 0 rfl) ?_
  refine lv_aload_n hx hb dX4_takeFrame_11 rfl (lv_at hl 0 rfl) ?_
  refine va_get (D := G.1) (ci := 4) (v := .ref a_t_row) (C := RX4) (T := TX4) (N := 7) hx hb hB iX4 hown hK.1 hP 0 rfl rfl 2 (by decide) (hB _ kw81) (fun _ h9 => h9) rfl dX4_takeFrame_12 ?_
  refine lv_iconst (v := (2 : Int32)) hx hb dX4_takeFrame_15 (by decide) ?_
  refine va_iald hx hb hK.1 hP 2 0 rfl rfl (vp_in_nI (n := 2) (N := 311) (by decide) (by decide)) dX4_takeFrame_16 ?_
  refine lv_iconst (v := (5 : Int32)) hx hb dX4_takeFrame_17 (by decide) ?_
  refine lv_isub hx hb dX4_takeFrame_18 ?_
  obtain ⟨u1, hu1, h⟩ := bnd_some h
  have hPc := hP.sub (ws' := (wdX4_copyData G a_t a_t_data a_t_row t_address t_master t_length t_dataLength (t_row (ix (3 : Int32))) t_data t_row)) [0, 1, 2] rfl
  have hDc := hD.sub (ws' := (wdX4_copyData G a_t a_t_data a_t_row t_address t_master t_length t_dataLength (t_row (ix (3 : Int32))) t_data t_row)) [0, 1, 2] (by decide) rfl
  refine g_i (wc := (wdX4_copyData G a_t a_t_data a_t_row t_address t_master t_length t_dataLength (t_row (ix (3 : Int32))) t_data t_row)) (w1 := (wdX4_copyData G a_t a_t_data a_t_row t_address t_master t_length u1.2.1 (t_row (ix (3 : Int32))) u1.2.2 t_row)) (w2 := (wdX4_takeFrame G a_t a_t_data a_t_row t_address t_master t_length u1.2.1 (t_row (ix (3 : Int32))) u1.2.2 t_row)) (va_runV (As := [.int ((t_row (ix (2 : Int32))) - (5 : Int32))]) (rest := []) ⟨hx, hb, hml, hown, hts⟩ (mX4_copyData l G a_t a_t_data a_t_row t_address t_master t_length (t_row (ix (3 : Int32))) t_row ((t_row (ix (2 : Int32))) - (5 : Int32)) t_dataLength t_data H.size u1 hu1) ⟨(callB_of 1 hts (bgIn kw453) rfl rfl rfl (hB _ kw47) (hB _ kw450) hdX4_copyData ⟨(Nat.le_of_ble_eq_true rfl), (Nat.le_of_ble_eq_true rfl)⟩), hB _ kw452, hB _ kw5⟩ (gPreV (ci := 4) (qr := 0) hK hPc hDc rfl rfl rfl) rfl rfl hl.1 rfl (lv_room (Nat.le_of_ble_eq_true rfl)) dX4_takeFrame_19 ⟨(Nat.le_of_ble_eq_true rfl), (Nat.le_of_ble_eq_true rfl)⟩) hP hD hS hA [0, 1, 2] rfl rfl [.inr 0, .inr 1, .inr 2] rfl rfl (fun H locs hP hD hS => ?_)
  refine lv_istore_n (lv' := [(1, .int u1.1), (0, .ref a_t)]) hx hb dX4_takeFrame_22 rfl hl (by decide) rfl (fun ls hl => ?_)
  refine lv_aload_n hx hb dX4_takeFrame_23 rfl (lv_at hl 1 rfl) ?_
  refine lv_iconst (v := (4 : Int32)) hx hb dX4_takeFrame_24 (by decide) ?_
  obtain ⟨u2, hu2, h⟩ := bnd_some h
  have hPc := hP.sub (ws' := (wdX4_twoAt G a_t a_t_row a_t_data t_address t_master t_length u1.2.1 (t_row (ix (3 : Int32))) t_row)) [0, 2] rfl
  have hDc := hD.sub (ws' := (wdX4_twoAt G a_t a_t_row a_t_data t_address t_master t_length u1.2.1 (t_row (ix (3 : Int32))) t_row)) [0, 2] (by decide) rfl
  refine g_i (wc := (wdX4_twoAt G a_t a_t_row a_t_data t_address t_master t_length u1.2.1 (t_row (ix (3 : Int32))) t_row)) (w1 := (wdX4_twoAt G a_t a_t_row a_t_data t_address t_master t_length u1.2.1 (t_row (ix (3 : Int32))) t_row)) (w2 := (wdX4_takeFrame G a_t a_t_data a_t_row t_address t_master t_length u1.2.1 (t_row (ix (3 : Int32))) u1.2.2 t_row)) (va_runV (As := [.int (4 : Int32)]) (rest := []) ⟨hx, hb, hml, hown, hts⟩ (mX4_twoAt l G a_t a_t_row a_t_data t_address t_master t_length u1.2.1 (t_row (ix (3 : Int32))) t_row (4 : Int32) H.size u2 hu2) ⟨(callB_of 1 hts (bgIn kw435) rfl rfl rfl (hB _ kw47) (hB _ kw432) hdX4_twoAt ⟨(Nat.le_of_ble_eq_true rfl), (Nat.le_of_ble_eq_true rfl)⟩), hB _ kw434, hB _ kw3⟩ (gPreV (ci := 4) (qr := 0) hK hPc hDc rfl rfl rfl) rfl rfl hl.1 rfl (lv_room (Nat.le_of_ble_eq_true rfl)) dX4_takeFrame_25 ⟨(Nat.le_of_ble_eq_true rfl), (Nat.le_of_ble_eq_true rfl)⟩) hP hD hS hA [0, 2] rfl rfl [.inr 0, .inl 1, .inr 1] rfl rfl (fun H locs hP hD hS => ?_)
  refine lv_aload_n hx hb dX4_takeFrame_28 rfl (lv_at hl 1 rfl) ?_
  refine va_get (D := G.1) (ci := 4) (v := .int t_address) (C := RX4) (T := TX4) (N := 7) hx hb hB iX4 hown hK.1 hP 0 rfl rfl 0 (by decide) (hB _ kw79) (fun _ h9 => h9) rfl dX4_takeFrame_29 ?_
  refine lv_icmp_ne (tgt := 66) hx hb dX4_takeFrame_32 (by decide) (fun hc32 => ?_) (fun hc32 => ?_)
  · have h := brc_ff h hc32
    exact wX4_takeFrame_L66 C u1.1 t_length u1.2.1 (t_row (ix (3 : Int32))) u1.2.2 t_row _ _ _ h hP hD hS (lv_sub hl [1, 0] rfl)
  · have h := brc_tt h hc32
    refine lv_aload_n hx hb dX4_takeFrame_35 rfl (lv_at hl 1 rfl) ?_
    refine lv_bipush (v := (6 : Int32)) hx hb dX4_takeFrame_36 (by decide) ?_
    obtain ⟨u3, hu3, h⟩ := bnd_some h
    have hPc := hP.sub (ws' := (wdX4_twoAt G a_t a_t_row a_t_data t_address t_master t_length u1.2.1 (t_row (ix (3 : Int32))) t_row)) [0, 2] rfl
    have hDc := hD.sub (ws' := (wdX4_twoAt G a_t a_t_row a_t_data t_address t_master t_length u1.2.1 (t_row (ix (3 : Int32))) t_row)) [0, 2] (by decide) rfl
    refine g_i (wc := (wdX4_twoAt G a_t a_t_row a_t_data t_address t_master t_length u1.2.1 (t_row (ix (3 : Int32))) t_row)) (w1 := (wdX4_twoAt G a_t a_t_row a_t_data t_address t_master t_length u1.2.1 (t_row (ix (3 : Int32))) t_row)) (w2 := (wdX4_takeFrame G a_t a_t_data a_t_row t_address t_master t_length u1.2.1 (t_row (ix (3 : Int32))) u1.2.2 t_row)) (va_runV (As := [.int (6 : Int32)]) (rest := []) ⟨hx, hb, hml, hown, hts⟩ (mX4_twoAt l G a_t a_t_row a_t_data t_address t_master t_length u1.2.1 (t_row (ix (3 : Int32))) t_row (6 : Int32) H.size u3 hu3) ⟨(callB_of 1 hts (bgIn kw435) rfl rfl rfl (hB _ kw47) (hB _ kw432) hdX4_twoAt ⟨(Nat.le_of_ble_eq_true rfl), (Nat.le_of_ble_eq_true rfl)⟩), hB _ kw434, hB _ kw3⟩ (gPreV (ci := 4) (qr := 0) hK hPc hDc rfl rfl rfl) rfl rfl hl.1 rfl (lv_room (Nat.le_of_ble_eq_true rfl)) dX4_takeFrame_38 ⟨(Nat.le_of_ble_eq_true rfl), (Nat.le_of_ble_eq_true rfl)⟩) hP hD hS hA [0, 2] rfl rfl [.inr 0, .inl 1, .inr 1] rfl rfl (fun H locs hP hD hS => ?_)
    refine lv_aload_n hx hb dX4_takeFrame_41 rfl (lv_at hl 1 rfl) ?_
    refine va_get (D := G.1) (ci := 4) (v := .int t_master) (C := RX4) (T := TX4) (N := 7) hx hb hB iX4 hown hK.1 hP 0 rfl rfl 1 (by decide) (hB _ kw80) (fun _ h9 => h9) rfl dX4_takeFrame_42 ?_
    refine lv_icmp_ne (tgt := 66) hx hb dX4_takeFrame_45 (by decide) (fun hc45 => ?_) (fun hc45 => ?_)
    · have h := brc_ff h hc45
      exact wX4_takeFrame_L66 C u1.1 t_length u1.2.1 (t_row (ix (3 : Int32))) u1.2.2 t_row _ _ _ h hP hD hS (lv_sub hl [1, 0] rfl)
    · have h := brc_tt h hc45
      refine lv_aload_n hx hb dX4_takeFrame_48 rfl (lv_at hl 1 rfl) ?_
      refine va_get (D := G.1) (ci := 4) (v := .int (t_row (ix (3 : Int32)))) (C := RX4) (T := TX4) (N := 7) hx hb hB iX4 hown hK.1 hP 0 rfl rfl 6 (by decide) (hB _ kw85) (fun _ h9 => h9) rfl dX4_takeFrame_49 ?_
      refine lv_sipush (v := (192 : Int32)) hx hb dX4_takeFrame_52 (by decide) ?_
      refine lv_iand hx hb dX4_takeFrame_55 ?_
      refine lv_sipush (v := (192 : Int32)) hx hb dX4_takeFrame_56 (by decide) ?_
      refine lv_icmp_ne (tgt := 66) hx hb dX4_takeFrame_59 (by decide) (fun hc59 => ?_) (fun hc59 => ?_)
      · have h := brc_ff h hc59
        exact wX4_takeFrame_L66 C u1.1 t_length u1.2.1 (t_row (ix (3 : Int32))) u1.2.2 t_row _ _ _ h hP hD hS (lv_sub hl [1, 0] rfl)
      · have h := brc_tt h hc59
        refine lv_iconst (v := (1 : Int32)) hx hb dX4_takeFrame_62 (by decide) ?_
        refine lv_goto (tgt := 67) hx hb dX4_takeFrame_63 (by decide) ?_
        exact wX4_takeFrame_L67 C u1.1 (1 : Int32) t_length u1.2.1 (t_row (ix (3 : Int32))) u1.2.2 t_row _ _ _ h hP hD hS (lv_sub hl [1, 0] rfl)
set_option maxHeartbeats 4000000 in
set_option maxRecDepth 100000 in
theorem mX4_takeFrame (l : Launch) (G : GT) (a_t : Nat) (a_t_data : Nat) (a_t_row : Nat) (t_address : Int32) (t_master : Int32) (t_length : Int32) (t_dataLength : Int32) (t_control : Int32) (t_data : Nat → Int32) (t_row : Nat → Int32) (sz : Nat) (out : Int32 × Int32 × Int32 × Int32 × (Nat → Int32) × (Nat → Int32)) (h : fX4_takeFrame t_address t_master t_length t_dataLength t_control t_data t_row = some out) : Met l yX4_takeFrame wsX4_takeFrame rmX4_takeFrame (gPc G [.ref a_t] sz (wdX4_takeFrame G a_t a_t_data a_t_row t_address t_master t_length t_dataLength t_control t_data t_row)) (gQi G (va_A (wdX4_takeFrame G a_t a_t_data a_t_row t_address t_master t_length t_dataLength t_control t_data t_row) sz) out.1 (wdX4_takeFrame G a_t a_t_data a_t_row t_address t_master out.2.1 out.2.2.1 out.2.2.2.1 out.2.2.2.2.1 out.2.2.2.2.2)) 0 0 (va_A (wdX4_takeFrame G a_t a_t_data a_t_row t_address t_master t_length t_dataLength t_control t_data t_row) sz) := by
  refine Met.ofW (cc := cX4_takeFrame) (maxL := 3) (ret := (some .int)) (by decide) rfl ?_
  intro p e s m args below meth c s₁ B hml hv
  obtain ⟨rfl, hsz, hP, hK, hD0⟩ := hv
  have hts := atoms_spec (ws := wsX4_takeFrame) B.pre
  have hown : s.vm.findClass "OutStation$Incoming" = some m.cls := findClass_of_methodNamed B.named
  subst hsz
  have hD := hD0.self (sz := s.heap.size)
  generalize hAe : va_A (wdX4_takeFrame G a_t a_t_data a_t_row t_address t_master t_length t_dataLength t_control t_data t_row) s.heap.size = A at hD ⊢
  have hA : ∀ q : Nat, s.heap.size ≤ q → A q := fun q h => by rw [← hAe]; exact Or.inr h
  have hS : va_S A s.heap s.heap [] := va_S.rf
  have hl := lv_entry ([.ref a_t]) (n := 3) (Nat.le_of_ble_eq_true rfl)
  rw [lg_entry_eq]
  generalize (lg_sl ([.ref a_t]) ++ List.replicate (3 - (lg_sl ([.ref a_t])).length) Slot.unset).toArray = ls at hl ⊢
  exact wX4_takeFrame_E ⟨B.exec, B.bytes, B.returns, hml, hown, hts, B.notSynchronized, hA, hK⟩ t_length t_dataLength t_control t_data t_row _ _ _ h hP hD hS hl
/-! ### OutStation$Incoming.nextFrame ()I -/
abbrev wdX4_nextFrame (G : GT) (a_t : Nat) (a_t_data : Nat) (a_t_row : Nat) (t_address : Int32) (t_master : Int32) (t_length : Int32) (t_dataLength : Int32) (t_control : Int32) (t_data : Nat → Int32) (t_row : Nat → Int32) : va_W := [(a_t, .inr (4, [.int t_address, .int t_master, .ref a_t_row, .int t_length, .ref a_t_data, .int t_dataLength, .int t_control])), (a_t_data, .inl (G.2.1, 250, .inl t_data)), (a_t_row, .inl (G.2.1, 311, .inl t_row))]
abbrev wsX4_nextFrame : List Cond := .code yX4_nextFrame cX4_nextFrame 3 (some .int) :: BG
abbrev rmX4_nextFrame : Room := { frames := 5, cells := 0, slots := 0, locals := 116 }
noncomputable def fX4_nextFrame_L62 (t_address : Int32) (t_master : Int32) (s0 : Int32) (t_length : Int32) (t_dataLength : Int32) (t_control : Int32) (t_data : Nat → Int32) (t_row : Nat → Int32) : Option (Int32 × Int32 × Int32 × Int32 × (Nat → Int32) × (Nat → Int32)) := some (s0, t_length, t_dataLength, t_control, t_data, t_row)
set_option maxHeartbeats 4000000 in
set_option maxRecDepth 100000 in
theorem wX4_nextFrame_L62 {p : Program} {l : Launch} {e : Env} {s : State} {m : MethodId} {args : Array Value} {below : List Frame} {meth : Method} {c : Code} {G : GT} {A : Nat → Prop} (C : cxt p s m args meth c cX4_nextFrame (some .int) 3 "OutStation$Incoming" wsX4_nextFrame G A) {a_t : Nat} {a_t_data : Nat} {a_t_row : Nat} {t_address : Int32} {t_master : Int32} {out : Int32 × Int32 × Int32 × Int32 × (Nat → Int32) × (Nat → Int32)} : ∀ (s0 : Int32) (t_length : Int32) (t_dataLength : Int32) (t_control : Int32) (t_data : Nat → Int32) (t_row : Nat → Int32) (H : Heap) (locs : List Loc) (ls : Array Slot), fX4_nextFrame_L62 t_address t_master s0 t_length t_dataLength t_control t_data t_row = some out → va_P G.1 vwCl (wdX4_nextFrame G a_t a_t_data a_t_row t_address t_master t_length t_dataLength t_control t_data t_row) H → va_D A (wdX4_nextFrame G a_t a_t_data a_t_row t_address t_master t_length t_dataLength t_control t_data t_row) → va_S A s.heap H locs → lv_has ls 3 [] → W p l e rmX4_nextFrame s m args below meth c H locs 0 0 (MQ below (gQi G A out.1 (wdX4_nextFrame G a_t a_t_data a_t_row t_address t_master out.2.1 out.2.2.1 out.2.2.2.1 out.2.2.2.2.1 out.2.2.2.2.2)) args s 0 0 A) (F0 m 62 ls [.int s0]) := by
  obtain ⟨hx, hb, hr, hml, hown, hts, hlocks, hA, hK⟩ := id C
  have hB : ∀ w ∈ BG, w.before args s = true := fun w h => hts w (List.mem_cons_of_mem _ h)
  intro s0 t_length t_dataLength t_control t_data t_row H locs ls h hP hD hS hl
  unfold fX4_nextFrame_L62 at h
  obtain rfl := Option.some.inj h
  exact W.iret (v := s0) hx hb hr (fun t ht hW => ⟨⟨_, (), rfl, rfl, by rw [ht]; exact hP, hD⟩, hS.F ht⟩) hS.2.2 dX4_nextFrame_62
noncomputable def fX4_nextFrame_L49 (t_address : Int32) (t_master : Int32) (s0 : Int32) (t_length : Int32) (t_dataLength : Int32) (t_control : Int32) (t_data : Nat → Int32) (t_row : Nat → Int32) : Option (Int32 × Int32 × Int32 × Int32 × (Nat → Int32) × (Nat → Int32)) := brc (s0 = 0) (fX4_nextFrame_L62 t_address t_master (0 : Int32) t_length t_dataLength t_control t_data t_row) (bnd (fX4_takeFrame t_address t_master t_length t_dataLength t_control t_data t_row) (fun u1 => fX4_nextFrame_L62 t_address t_master u1.1 u1.2.1 u1.2.2.1 u1.2.2.2.1 u1.2.2.2.2.1 u1.2.2.2.2.2))
set_option maxHeartbeats 4000000 in
set_option maxRecDepth 100000 in
theorem wX4_nextFrame_L49 {p : Program} {l : Launch} {e : Env} {s : State} {m : MethodId} {args : Array Value} {below : List Frame} {meth : Method} {c : Code} {G : GT} {A : Nat → Prop} (C : cxt p s m args meth c cX4_nextFrame (some .int) 3 "OutStation$Incoming" wsX4_nextFrame G A) {a_t : Nat} {a_t_data : Nat} {a_t_row : Nat} {t_address : Int32} {t_master : Int32} {out : Int32 × Int32 × Int32 × Int32 × (Nat → Int32) × (Nat → Int32)} : ∀ (s0 : Int32) (t_length : Int32) (t_dataLength : Int32) (t_control : Int32) (t_data : Nat → Int32) (t_row : Nat → Int32) (H : Heap) (locs : List Loc) (ls : Array Slot), fX4_nextFrame_L49 t_address t_master s0 t_length t_dataLength t_control t_data t_row = some out → va_P G.1 vwCl (wdX4_nextFrame G a_t a_t_data a_t_row t_address t_master t_length t_dataLength t_control t_data t_row) H → va_D A (wdX4_nextFrame G a_t a_t_data a_t_row t_address t_master t_length t_dataLength t_control t_data t_row) → va_S A s.heap H locs → lv_has ls 3 [(0, .ref a_t)] → W p l e rmX4_nextFrame s m args below meth c H locs 0 0 (MQ below (gQi G A out.1 (wdX4_nextFrame G a_t a_t_data a_t_row t_address t_master out.2.1 out.2.2.1 out.2.2.2.1 out.2.2.2.2.1 out.2.2.2.2.2)) args s 0 0 A) (F0 m 49 ls [.int s0]) := by
  obtain ⟨hx, hb, hr, hml, hown, hts, hlocks, hA, hK⟩ := id C
  have hB : ∀ w ∈ BG, w.before args s = true := fun w h => hts w (List.mem_cons_of_mem _ h)
  intro s0 t_length t_dataLength t_control t_data t_row H locs ls h hP hD hS hl
  unfold fX4_nextFrame_L49 at h
  refine lv_istore_n (lv' := [(2, .int s0), (0, .ref a_t)]) hx hb dX4_nextFrame_49 rfl hl (by decide) rfl (fun ls hl => ?_)
  refine lv_iload_n hx hb dX4_nextFrame_50 rfl (lv_at hl 0 rfl) ?_
  refine lv_if_eq (tgt := 61) hx hb dX4_nextFrame_51 (by decide) (fun hc51 => ?_) (fun hc51 => ?_)
  · have h := brc_tt h hc51
    refine lv_iconst (v := (0 : Int32)) hx hb dX4_nextFrame_61 (by decide) ?_
    exact wX4_nextFrame_L62 C (0 : Int32) t_length t_dataLength t_control t_data t_row _ _ _ h hP hD hS (lv_sub hl [] rfl)
  · have h := brc_ff h hc51
    refine lv_aload_n hx hb dX4_nextFrame_54 rfl (lv_at hl 1 rfl) ?_
    obtain ⟨u1, hu1, h⟩ := bnd_some h
    have hPc := hP.sub (ws' := (wdX4_takeFrame G a_t a_t_data a_t_row t_address t_master t_length t_dataLength t_control t_data t_row)) [0, 1, 2] rfl
    have hDc := hD.sub (ws' := (wdX4_takeFrame G a_t a_t_data a_t_row t_address t_master t_length t_dataLength t_control t_data t_row)) [0, 1, 2] (by decide) rfl
    refine g_i (wc := (wdX4_takeFrame G a_t a_t_data a_t_row t_address t_master t_length t_dataLength t_control t_data t_row)) (w1 := (wdX4_takeFrame G a_t a_t_data a_t_row t_address t_master u1.2.1 u1.2.2.1 u1.2.2.2.1 u1.2.2.2.2.1 u1.2.2.2.2.2)) (w2 := (wdX4_nextFrame G a_t a_t_data a_t_row t_address t_master u1.2.1 u1.2.2.1 u1.2.2.2.1 u1.2.2.2.2.1 u1.2.2.2.2.2)) (va_runV (As := []) (rest := []) ⟨hx, hb, hml, hown, hts⟩ (mX4_takeFrame l G a_t a_t_data a_t_row t_address t_master t_length t_dataLength t_control t_data t_row H.size u1 hu1) ⟨(callB_of 0 hts (bgIn kw449) rfl rfl rfl (hB _ kw47) (hB _ kw446) hdX4_takeFrame ⟨(Nat.le_of_ble_eq_true rfl), (Nat.le_of_ble_eq_true rfl)⟩), hB _ kw448, hB _ kw4⟩ (gPreV (ci := 4) (qr := 0) hK hPc hDc rfl rfl rfl) rfl rfl hl.1 rfl (lv_room (Nat.le_of_ble_eq_true rfl)) dX4_nextFrame_55 ⟨(Nat.le_of_ble_eq_true rfl), (Nat.le_of_ble_eq_true rfl)⟩) hP hD hS hA [0, 1, 2] rfl rfl [.inr 0, .inr 1, .inr 2] rfl rfl (fun H locs hP hD hS => ?_)
    refine lv_goto (tgt := 62) hx hb dX4_nextFrame_58 (by decide) ?_
    exact wX4_nextFrame_L62 C u1.1 u1.2.1 u1.2.2.1 u1.2.2.2.1 u1.2.2.2.2.1 u1.2.2.2.2.2 _ _ _ h hP hD hS (lv_sub hl [] rfl)
noncomputable def fX4_nextFrame_L48 (t_address : Int32) (t_master : Int32) (t_length : Int32) (t_dataLength : Int32) (t_control : Int32) (t_data : Nat → Int32) (t_row : Nat → Int32) : Option (Int32 × Int32 × Int32 × Int32 × (Nat → Int32) × (Nat → Int32)) := fX4_nextFrame_L49 t_address t_master (0 : Int32) t_length t_dataLength t_control t_data t_row
set_option maxHeartbeats 4000000 in
set_option maxRecDepth 100000 in
theorem wX4_nextFrame_L48 {p : Program} {l : Launch} {e : Env} {s : State} {m : MethodId} {args : Array Value} {below : List Frame} {meth : Method} {c : Code} {G : GT} {A : Nat → Prop} (C : cxt p s m args meth c cX4_nextFrame (some .int) 3 "OutStation$Incoming" wsX4_nextFrame G A) {a_t : Nat} {a_t_data : Nat} {a_t_row : Nat} {t_address : Int32} {t_master : Int32} {out : Int32 × Int32 × Int32 × Int32 × (Nat → Int32) × (Nat → Int32)} : ∀ (t_length : Int32) (t_dataLength : Int32) (t_control : Int32) (t_data : Nat → Int32) (t_row : Nat → Int32) (H : Heap) (locs : List Loc) (ls : Array Slot), fX4_nextFrame_L48 t_address t_master t_length t_dataLength t_control t_data t_row = some out → va_P G.1 vwCl (wdX4_nextFrame G a_t a_t_data a_t_row t_address t_master t_length t_dataLength t_control t_data t_row) H → va_D A (wdX4_nextFrame G a_t a_t_data a_t_row t_address t_master t_length t_dataLength t_control t_data t_row) → va_S A s.heap H locs → lv_has ls 3 [(0, .ref a_t)] → W p l e rmX4_nextFrame s m args below meth c H locs 0 0 (MQ below (gQi G A out.1 (wdX4_nextFrame G a_t a_t_data a_t_row t_address t_master out.2.1 out.2.2.1 out.2.2.2.1 out.2.2.2.2.1 out.2.2.2.2.2)) args s 0 0 A) (F0 m 48 ls []) := by
  obtain ⟨hx, hb, hr, hml, hown, hts, hlocks, hA, hK⟩ := id C
  have hB : ∀ w ∈ BG, w.before args s = true := fun w h => hts w (List.mem_cons_of_mem _ h)
  intro t_length t_dataLength t_control t_data t_row H locs ls h hP hD hS hl
  unfold fX4_nextFrame_L48 at h
  refine lv_iconst (v := (0 : Int32)) hx hb dX4_nextFrame_48 (by decide) ?_
  exact wX4_nextFrame_L49 C (0 : Int32) t_length t_dataLength t_control t_data t_row _ _ _ h hP hD hS (lv_sub hl [0] rfl)
noncomputable def fX4_nextFrame_L5 (t_address : Int32) (t_master : Int32) (n : Nat) : Int32 → Int32 → Int32 → Int32 → (Nat → Int32) → (Nat → Int32) → Option (Int32 × Int32 × Int32 × Int32 × (Nat → Int32) × (Nat → Int32)) := Nat.rec (motive := fun _ => Int32 → Int32 → Int32 → Int32 → (Nat → Int32) → (Nat → Int32) → Option (Int32 × Int32 × Int32 × Int32 × (Nat → Int32) × (Nat → Int32))) (fun _ _ _ _ _ _ => none) (fun _ k_L5 x1 t_length t_dataLength t_control t_data t_row => brc (x1 < (2 : Int32)) (some ((0 : Int32), t_length, t_dataLength, t_control, t_data, t_row)) (bnd (fX4_mayBeginFrame t_length t_row) (fun u1 => brc (u1 = 0) (bnd (fX4_drop (1 : Int32) t_length t_row) (fun u2 => k_L5 (x1 + (-1 : Int32)) u2.1 t_dataLength t_control t_data u2.2)) (brc (t_length < (10 : Int32)) (fX4_nextFrame_L48 t_address t_master t_length t_dataLength t_control t_data t_row) (bnd (fX9_frameLength ((t_row (ix (2 : Int32))) - (5 : Int32))) (fun u3 => brc (t_length < u3) (fX4_nextFrame_L48 t_address t_master t_length t_dataLength t_control t_data t_row) (fX4_nextFrame_L49 t_address t_master (1 : Int32) t_length t_dataLength t_control t_data t_row))))))) n
set_option maxHeartbeats 4000000 in
set_option maxRecDepth 100000 in
theorem wX4_nextFrame_L5 {p : Program} {l : Launch} {e : Env} {s : State} {m : MethodId} {args : Array Value} {below : List Frame} {meth : Method} {c : Code} {G : GT} {A : Nat → Prop} (C : cxt p s m args meth c cX4_nextFrame (some .int) 3 "OutStation$Incoming" wsX4_nextFrame G A) {a_t : Nat} {a_t_data : Nat} {a_t_row : Nat} {t_address : Int32} {t_master : Int32} {out : Int32 × Int32 × Int32 × Int32 × (Nat → Int32) × (Nat → Int32)} : ∀ (n : Nat) (x1 : Int32) (t_length : Int32) (t_dataLength : Int32) (t_control : Int32) (t_data : Nat → Int32) (t_row : Nat → Int32) (H : Heap) (locs : List Loc) (ls : Array Slot), fX4_nextFrame_L5 t_address t_master n x1 t_length t_dataLength t_control t_data t_row = some out → va_P G.1 vwCl (wdX4_nextFrame G a_t a_t_data a_t_row t_address t_master t_length t_dataLength t_control t_data t_row) H → va_D A (wdX4_nextFrame G a_t a_t_data a_t_row t_address t_master t_length t_dataLength t_control t_data t_row) → va_S A s.heap H locs → lv_has ls 3 [(0, .ref a_t), (1, .int x1)] → W p l e rmX4_nextFrame s m args below meth c H locs 0 0 (MQ below (gQi G A out.1 (wdX4_nextFrame G a_t a_t_data a_t_row t_address t_master out.2.1 out.2.2.1 out.2.2.2.1 out.2.2.2.2.1 out.2.2.2.2.2)) args s 0 0 A) (F0 m 5 ls []) := by
  obtain ⟨hx, hb, hr, hml, hown, hts, hlocks, hA, hK⟩ := id C
  have hB : ∀ w ∈ BG, w.before args s = true := fun w h => hts w (List.mem_cons_of_mem _ h)
  intro n
  induction n with
  | zero =>
    intro x1 t_length t_dataLength t_control t_data t_row H locs ls h hP hD hS hl
    cases h
  | succ n ih =>
    intro x1 t_length t_dataLength t_control t_data t_row H locs ls h hP hD hS hl
    replace h : brc (x1 < (2 : Int32)) (some ((0 : Int32), t_length, t_dataLength, t_control, t_data, t_row)) (bnd (fX4_mayBeginFrame t_length t_row) (fun u1 => brc (u1 = 0) (bnd (fX4_drop (1 : Int32) t_length t_row) (fun u2 => (fX4_nextFrame_L5 t_address t_master n) (x1 + (-1 : Int32)) u2.1 t_dataLength t_control t_data u2.2)) (brc (t_length < (10 : Int32)) (fX4_nextFrame_L48 t_address t_master t_length t_dataLength t_control t_data t_row) (bnd (fX9_frameLength ((t_row (ix (2 : Int32))) - (5 : Int32))) (fun u3 => brc (t_length < u3) (fX4_nextFrame_L48 t_address t_master t_length t_dataLength t_control t_data t_row) (fX4_nextFrame_L49 t_address t_master (1 : Int32) t_length t_dataLength t_control t_data t_row)))))) = some out := h
    refine lv_iload_n hx hb dX4_nextFrame_5 rfl (lv_at hl 1 rfl) ?_
    refine lv_iconst (v := (2 : Int32)) hx hb dX4_nextFrame_6 (by decide) ?_
    refine lv_icmp_lt (tgt := 74) hx hb dX4_nextFrame_7 (by decide) (fun hc7 => ?_) (fun hc7 => ?_)
    · have h := brc_tt h hc7
      refine lv_iconst (v := (0 : Int32)) hx hb dX4_nextFrame_74 (by decide) ?_
      obtain rfl := Option.some.inj h
      exact W.iret (v := (0 : Int32)) hx hb hr (fun t ht hW => ⟨⟨_, (), rfl, rfl, by rw [ht]; exact hP, hD⟩, hS.F ht⟩) hS.2.2 dX4_nextFrame_75
    · have h := brc_ff h hc7
      refine lv_aload_n hx hb dX4_nextFrame_10 rfl (lv_at hl 0 rfl) ?_
      obtain ⟨u1, hu1, h⟩ := bnd_some h
      have hPc := hP.sub (ws' := (wdX4_mayBeginFrame G a_t a_t_row a_t_data t_address t_master t_length t_dataLength t_control t_row)) [0, 2] rfl
      have hDc := hD.sub (ws' := (wdX4_mayBeginFrame G a_t a_t_row a_t_data t_address t_master t_length t_dataLength t_control t_row)) [0, 2] (by decide) rfl
      refine g_i (wc := (wdX4_mayBeginFrame G a_t a_t_row a_t_data t_address t_master t_length t_dataLength t_control t_row)) (w1 := (wdX4_mayBeginFrame G a_t a_t_row a_t_data t_address t_master t_length t_dataLength t_control t_row)) (w2 := (wdX4_nextFrame G a_t a_t_data a_t_row t_address t_master t_length t_dataLength t_control t_data t_row)) (va_runV (As := []) (rest := []) ⟨hx, hb, hml, hown, hts⟩ (mX4_mayBeginFrame l G a_t a_t_row a_t_data t_address t_master t_length t_dataLength t_control t_row H.size u1 hu1) ⟨(callB_of 0 hts (bgIn kw427) rfl rfl rfl (hB _ kw47) (hB _ kw424) hdX4_mayBeginFrame ⟨(Nat.le_of_ble_eq_true rfl), (Nat.le_of_ble_eq_true rfl)⟩), hB _ kw426, hB _ kw1⟩ (gPreV (ci := 4) (qr := 0) hK hPc hDc rfl rfl rfl) rfl rfl hl.1 rfl (lv_room (Nat.le_of_ble_eq_true rfl)) dX4_nextFrame_11 ⟨(Nat.le_of_ble_eq_true rfl), (Nat.le_of_ble_eq_true rfl)⟩) hP hD hS hA [0, 2] rfl rfl [.inr 0, .inl 1, .inr 1] rfl rfl (fun H locs hP hD hS => ?_)
      refine lv_if_eq (tgt := 63) hx hb dX4_nextFrame_14 (by decide) (fun hc14 => ?_) (fun hc14 => ?_)
      · have h := brc_tt h hc14
        refine lv_aload_n hx hb dX4_nextFrame_63 rfl (lv_at hl 0 rfl) ?_
        refine lv_iconst (v := (1 : Int32)) hx hb dX4_nextFrame_64 (by decide) ?_
        obtain ⟨u2, hu2, h⟩ := bnd_some h
        have hPc := hP.sub (ws' := (wdX4_drop G a_t a_t_row a_t_data t_address t_master t_length t_dataLength t_control t_row)) [0, 2] rfl
        have hDc := hD.sub (ws' := (wdX4_drop G a_t a_t_row a_t_data t_address t_master t_length t_dataLength t_control t_row)) [0, 2] (by decide) rfl
        refine g_v (wc := (wdX4_drop G a_t a_t_row a_t_data t_address t_master t_length t_dataLength t_control t_row)) (w1 := (wdX4_drop G a_t a_t_row a_t_data t_address t_master u2.1 t_dataLength t_control u2.2)) (w2 := (wdX4_nextFrame G a_t a_t_data a_t_row t_address t_master u2.1 t_dataLength t_control t_data u2.2)) (va_runV (As := [.int (1 : Int32)]) (rest := []) ⟨hx, hb, hml, hown, hts⟩ (mX4_drop l G a_t a_t_row a_t_data t_address t_master t_dataLength t_control (1 : Int32) t_length t_row H.size u2 hu2) ⟨(callB_of 1 hts (bgIn kw461) rfl rfl rfl (hB _ kw47) (hB _ kw458) hdX4_drop ⟨(Nat.le_of_ble_eq_true rfl), (Nat.le_of_ble_eq_true rfl)⟩), hB _ kw460, hB _ kw6⟩ (gPreV (ci := 4) (qr := 0) hK hPc hDc rfl rfl rfl) rfl rfl hl.1 rfl (lv_room (Nat.le_of_ble_eq_true rfl)) dX4_nextFrame_65 ⟨(Nat.le_of_ble_eq_true rfl), (Nat.le_of_ble_eq_true rfl)⟩) hP hD hS hA [0, 2] rfl rfl [.inr 0, .inl 1, .inr 1] rfl rfl (fun H locs hP hD hS => ?_)
        refine lv_iinc (v := (x1 + (-1 : Int32))) (lv' := [(1, .int (x1 + (-1 : Int32))), (0, .ref a_t)]) hx hb dX4_nextFrame_68 hl (k := 1) rfl rfl (by decide) rfl (fun ls hl => ?_)
        refine lv_goto (tgt := 5) hx hb dX4_nextFrame_71 (by decide) ?_
        exact ih (x1 + (-1 : Int32)) u2.1 t_dataLength t_control t_data u2.2 _ _ _ h hP hD hS (lv_sub hl [1, 0] rfl)
      · have h := brc_ff h hc14
        refine lv_aload_n hx hb dX4_nextFrame_17 rfl (lv_at hl 0 rfl) ?_
        refine va_get (D := G.1) (ci := 4) (v := .int t_length) (C := RX4) (T := TX4) (N := 7) hx hb hB iX4 hown hK.1 hP 0 rfl rfl 3 (by decide) (hB _ kw82) (fun _ h9 => h9) rfl dX4_nextFrame_18 ?_
        refine lv_bipush (v := (10 : Int32)) hx hb dX4_nextFrame_21 (by decide) ?_
        refine lv_icmp_lt (tgt := 48) hx hb dX4_nextFrame_23 (by decide) (fun hc23 => ?_) (fun hc23 => ?_)
        · have h := brc_tt h hc23
          exact wX4_nextFrame_L48 C t_length t_dataLength t_control t_data t_row _ _ _ h hP hD hS (lv_sub hl [0] rfl)
        · have h := brc_ff h hc23
          refine lv_aload_n hx hb dX4_nextFrame_26 rfl (lv_at hl 0 rfl) ?_
          refine va_get (D := G.1) (ci := 4) (v := .int t_length) (C := RX4) (T := TX4) (N := 7) hx hb hB iX4 hown hK.1 hP 0 rfl rfl 3 (by decide) (hB _ kw82) (fun _ h9 => h9) rfl dX4_nextFrame_27 ?_
          refine lv_aload_n hx hb dX4_nextFrame_30 rfl (lv_at hl 0 rfl) ?_
          refine va_get (D := G.1) (ci := 4) (v := .ref a_t_row) (C := RX4) (T := TX4) (N := 7) hx hb hB iX4 hown hK.1 hP 0 rfl rfl 2 (by decide) (hB _ kw81) (fun _ h9 => h9) rfl dX4_nextFrame_31 ?_
          refine lv_iconst (v := (2 : Int32)) hx hb dX4_nextFrame_34 (by decide) ?_
          refine va_iald hx hb hK.1 hP 2 0 rfl rfl (vp_in_nI (n := 2) (N := 311) (by decide) (by decide)) dX4_nextFrame_35 ?_
          refine lv_iconst (v := (5 : Int32)) hx hb dX4_nextFrame_36 (by decide) ?_
          refine lv_isub hx hb dX4_nextFrame_37 ?_
          obtain ⟨u3, hu3, h⟩ := bnd_some h
          have hPc := hP.sub (ws' := (wdX9_frameLength G)) [] rfl
          have hDc := hD.sub (ws' := (wdX9_frameLength G)) [] (by decide) rfl
          refine g_i (wc := (wdX9_frameLength G)) (w1 := (wdX9_frameLength G)) (w2 := (wdX4_nextFrame G a_t a_t_data a_t_row t_address t_master t_length t_dataLength t_control t_data t_row)) (va_runSN (As := [.int ((t_row (ix (2 : Int32))) - (5 : Int32))]) (rest := [.int t_length]) ⟨hx, hb, hml, hown, hts⟩ (mX9_frameLength l G ((t_row (ix (2 : Int32))) - (5 : Int32)) H.size u3 hu3) ⟨(va_cnB 1 hts (bgIn kw445) rfl rfl rfl (hK.2.1 ("OutStation$Incoming", 38, yX9_frameLength, "OutStation") (by decide +kernel)) (hB _ kw46) hdX9_frameLength ⟨(Nat.le_of_ble_eq_true rfl), (Nat.le_of_ble_eq_true rfl)⟩), hB _ kw444, trivial⟩ (gPreS hK hPc hDc) rfl rfl hl.1 rfl (lv_room (Nat.le_of_ble_eq_true rfl)) dX4_nextFrame_38 ⟨(Nat.le_of_ble_eq_true rfl), (Nat.le_of_ble_eq_true rfl)⟩) hP hD hS hA [] rfl rfl [.inl 0, .inl 1, .inl 2] rfl rfl (fun H locs hP hD hS => ?_)
          refine lv_icmp_lt (tgt := 48) hx hb dX4_nextFrame_41 (by decide) (fun hc41 => ?_) (fun hc41 => ?_)
          · have h := brc_tt h hc41
            exact wX4_nextFrame_L48 C t_length t_dataLength t_control t_data t_row _ _ _ h hP hD hS (lv_sub hl [0] rfl)
          · have h := brc_ff h hc41
            refine lv_iconst (v := (1 : Int32)) hx hb dX4_nextFrame_44 (by decide) ?_
            refine lv_goto (tgt := 49) hx hb dX4_nextFrame_45 (by decide) ?_
            exact wX4_nextFrame_L49 C (1 : Int32) t_length t_dataLength t_control t_data t_row _ _ _ h hP hD hS (lv_sub hl [0] rfl)
noncomputable def fX4_nextFrame (t_address : Int32) (t_master : Int32) (t_length : Int32) (t_dataLength : Int32) (t_control : Int32) (t_data : Nat → Int32) (t_row : Nat → Int32) : Option (Int32 × Int32 × Int32 × Int32 × (Nat → Int32) × (Nat → Int32)) := fX4_nextFrame_L5 t_address t_master FU t_length t_length t_dataLength t_control t_data t_row
set_option maxHeartbeats 4000000 in
set_option maxRecDepth 100000 in
theorem wX4_nextFrame_E {p : Program} {l : Launch} {e : Env} {s : State} {m : MethodId} {args : Array Value} {below : List Frame} {meth : Method} {c : Code} {G : GT} {A : Nat → Prop} (C : cxt p s m args meth c cX4_nextFrame (some .int) 3 "OutStation$Incoming" wsX4_nextFrame G A) {a_t : Nat} {a_t_data : Nat} {a_t_row : Nat} {t_address : Int32} {t_master : Int32} {out : Int32 × Int32 × Int32 × Int32 × (Nat → Int32) × (Nat → Int32)} : ∀ (t_length : Int32) (t_dataLength : Int32) (t_control : Int32) (t_data : Nat → Int32) (t_row : Nat → Int32) (H : Heap) (locs : List Loc) (ls : Array Slot), fX4_nextFrame t_address t_master t_length t_dataLength t_control t_data t_row = some out → va_P G.1 vwCl (wdX4_nextFrame G a_t a_t_data a_t_row t_address t_master t_length t_dataLength t_control t_data t_row) H → va_D A (wdX4_nextFrame G a_t a_t_data a_t_row t_address t_master t_length t_dataLength t_control t_data t_row) → va_S A s.heap H locs → lv_has ls 3 [(0, .ref a_t)] → W p l e rmX4_nextFrame s m args below meth c H locs 0 0 (MQ below (gQi G A out.1 (wdX4_nextFrame G a_t a_t_data a_t_row t_address t_master out.2.1 out.2.2.1 out.2.2.2.1 out.2.2.2.2.1 out.2.2.2.2.2)) args s 0 0 A) (F0 m 0 ls []) := by
  obtain ⟨hx, hb, hr, hml, hown, hts, hlocks, hA, hK⟩ := id C
  have hB : ∀ w ∈ BG, w.before args s = true := fun w h => hts w (List.mem_cons_of_mem _ h)
  intro t_length t_dataLength t_control t_data t_row H locs ls h hP hD hS hl
  unfold fX4_nextFrame at h
  refine lv_aload_n hx hb dX4_nextFrame_0 rfl (lv_at hl 0 rfl) ?_
  refine va_get (D := G.1) (ci := 4) (v := .int t_length) (C := RX4) (T := TX4) (N := 7) hx hb hB iX4 hown hK.1 hP 0 rfl rfl 3 (by decide) (hB _ kw82) (fun _ h9 => h9) rfl dX4_nextFrame_1 ?_
  refine lv_istore_n (lv' := [(1, .int t_length), (0, .ref a_t)]) hx hb dX4_nextFrame_4 rfl hl (by decide) rfl (fun ls hl => ?_)
  exact wX4_nextFrame_L5 C FU t_length t_length t_dataLength t_control t_data t_row _ _ _ h hP hD hS (lv_sub hl [1, 0] rfl)
set_option maxHeartbeats 4000000 in
set_option maxRecDepth 100000 in
theorem mX4_nextFrame (l : Launch) (G : GT) (a_t : Nat) (a_t_data : Nat) (a_t_row : Nat) (t_address : Int32) (t_master : Int32) (t_length : Int32) (t_dataLength : Int32) (t_control : Int32) (t_data : Nat → Int32) (t_row : Nat → Int32) (sz : Nat) (out : Int32 × Int32 × Int32 × Int32 × (Nat → Int32) × (Nat → Int32)) (h : fX4_nextFrame t_address t_master t_length t_dataLength t_control t_data t_row = some out) : Met l yX4_nextFrame wsX4_nextFrame rmX4_nextFrame (gPc G [.ref a_t] sz (wdX4_nextFrame G a_t a_t_data a_t_row t_address t_master t_length t_dataLength t_control t_data t_row)) (gQi G (va_A (wdX4_nextFrame G a_t a_t_data a_t_row t_address t_master t_length t_dataLength t_control t_data t_row) sz) out.1 (wdX4_nextFrame G a_t a_t_data a_t_row t_address t_master out.2.1 out.2.2.1 out.2.2.2.1 out.2.2.2.2.1 out.2.2.2.2.2)) 0 0 (va_A (wdX4_nextFrame G a_t a_t_data a_t_row t_address t_master t_length t_dataLength t_control t_data t_row) sz) := by
  refine Met.ofW (cc := cX4_nextFrame) (maxL := 3) (ret := (some .int)) (by decide) rfl ?_
  intro p e s m args below meth c s₁ B hml hv
  obtain ⟨rfl, hsz, hP, hK, hD0⟩ := hv
  have hts := atoms_spec (ws := wsX4_nextFrame) B.pre
  have hown : s.vm.findClass "OutStation$Incoming" = some m.cls := findClass_of_methodNamed B.named
  subst hsz
  have hD := hD0.self (sz := s.heap.size)
  generalize hAe : va_A (wdX4_nextFrame G a_t a_t_data a_t_row t_address t_master t_length t_dataLength t_control t_data t_row) s.heap.size = A at hD ⊢
  have hA : ∀ q : Nat, s.heap.size ≤ q → A q := fun q h => by rw [← hAe]; exact Or.inr h
  have hS : va_S A s.heap s.heap [] := va_S.rf
  have hl := lv_entry ([.ref a_t]) (n := 3) (Nat.le_of_ble_eq_true rfl)
  rw [lg_entry_eq]
  generalize (lg_sl ([.ref a_t]) ++ List.replicate (3 - (lg_sl ([.ref a_t])).length) Slot.unset).toArray = ls at hl ⊢
  exact wX4_nextFrame_E ⟨B.exec, B.bytes, B.returns, hml, hown, hts, B.notSynchronized, hA, hK⟩ t_length t_dataLength t_control t_data t_row _ _ _ h hP hD hS hl
