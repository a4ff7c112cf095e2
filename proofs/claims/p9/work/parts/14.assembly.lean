/-! ### OutStation$Assembly.bytes ()[I -/
abbrev wdX1_bytes (G : GT) (a_t : Nat) (a_t_fragment : Nat) (t_length : Int32) (t_open : Int32) (t_number : Int32) : va_W := [(a_t, .inr (1, [.ref a_t_fragment, .int t_length, .int t_open, .int t_number]))]
abbrev wsX1_bytes : List Cond := .code yX1_bytes cX1_bytes 1 (some (.array .int)) :: BG
abbrev rmX1_bytes : Room := { frames := 0, cells := 0, slots := 0, locals := 0 }
noncomputable def fX1_bytes : Option (Unit) := some ()
set_option maxHeartbeats 4000000 in
set_option maxRecDepth 100000 in
theorem wX1_bytes_E {p : Program} {l : Launch} {e : Env} {s : State} {m : MethodId} {args : Array Value} {below : List Frame} {meth : Method} {c : Code} {G : GT} {A : Nat → Prop} (C : cxt p s m args meth c cX1_bytes (some (.array .int)) 1 "OutStation$Assembly" wsX1_bytes G A) {a_t : Nat} {a_t_fragment : Nat} {t_length : Int32} {t_open : Int32} {t_number : Int32} {out : Unit} : ∀ (H : Heap) (locs : List Loc) (ls : Array Slot), fX1_bytes = some out → va_P G.1 vwCl (wdX1_bytes G a_t a_t_fragment t_length t_open t_number) H → va_D A (wdX1_bytes G a_t a_t_fragment t_length t_open t_number) → va_S A s.heap H locs → lv_has ls 1 [(0, .ref a_t)] → W p l e rmX1_bytes s m args below meth c H locs 0 0 (MQ below (gQr G A a_t_fragment (wdX1_bytes G a_t a_t_fragment t_length t_open t_number)) args s 0 0 A) (F0 m 0 ls []) := by
  obtain ⟨hx, hb, hr, hml, hown, hts, hlocks, hA, hK⟩ := id C
  have hB : ∀ w ∈ BG, w.before args s = true := fun w h => hts w (List.mem_cons_of_mem _ h)
  intro H locs ls h hP hD hS hl
  unfold fX1_bytes at h
  refine lv_aload_n hx hb dX1_bytes_0 rfl (lv_at hl 0 rfl) ?_
  refine va_get (D := G.1) (ci := 1) (v := .ref a_t_fragment) (C := RX1) (T := TX1) (N := 4) hx hb hB iX1 hown hK.1 hP 0 rfl rfl 0 (by decide) (hB _ kw124) (fun _ h9 => h9) rfl dX1_bytes_1 ?_
  obtain rfl := Option.some.inj h
  exact W.aret (v := .ref a_t_fragment) hx hb hr (Or.inr ⟨_, rfl⟩) (Or.inr ⟨_, rfl⟩) (fun t ht hW => ⟨⟨(), _, rfl, trivial, rfl, by rw [ht]; exact hP, hD⟩, hS.F ht⟩) hS.2.2 dX1_bytes_4
set_option maxHeartbeats 4000000 in
set_option maxRecDepth 100000 in
theorem mX1_bytes (l : Launch) (G : GT) (a_t : Nat) (a_t_fragment : Nat) (t_length : Int32) (t_open : Int32) (t_number : Int32) (sz : Nat) (out : Unit) (h : fX1_bytes = some out) : Met l yX1_bytes wsX1_bytes rmX1_bytes (gPc G [.ref a_t] sz (wdX1_bytes G a_t a_t_fragment t_length t_open t_number)) (gQr G (va_A (wdX1_bytes G a_t a_t_fragment t_length t_open t_number) sz) a_t_fragment (wdX1_bytes G a_t a_t_fragment t_length t_open t_number)) 0 0 (va_A (wdX1_bytes G a_t a_t_fragment t_length t_open t_number) sz) := by
  refine Met.ofW (cc := cX1_bytes) (maxL := 1) (ret := (some (.array .int))) (by decide) rfl ?_
  intro p e s m args below meth c s₁ B hml hv
  obtain ⟨rfl, hsz, hP, hK, hD0⟩ := hv
  have hts := atoms_spec (ws := wsX1_bytes) B.pre
  have hown : s.vm.findClass "OutStation$Assembly" = some m.cls := findClass_of_methodNamed B.named
  subst hsz
  have hD := hD0.self (sz := s.heap.size)
  generalize hAe : va_A (wdX1_bytes G a_t a_t_fragment t_length t_open t_number) s.heap.size = A at hD ⊢
  have hA : ∀ q : Nat, s.heap.size ≤ q → A q := fun q h => by rw [← hAe]; exact Or.inr h
  have hS : va_S A s.heap s.heap [] := va_S.rf
  have hl := lv_entry ([.ref a_t]) (n := 1) (Nat.le_of_ble_eq_true rfl)
  rw [lg_entry_eq]
  generalize (lg_sl ([.ref a_t]) ++ List.replicate (1 - (lg_sl ([.ref a_t])).length) Slot.unset).toArray = ls at hl ⊢
  exact wX1_bytes_E ⟨B.exec, B.bytes, B.returns, hml, hown, hts, B.notSynchronized, hA, hK⟩  _ _ _ h hP hD hS hl
/-! ### OutStation$Assembly.size ()I -/
abbrev wdX1_size (G : GT) (a_t : Nat) (a_t_fragment : Nat) (t_length : Int32) (t_open : Int32) (t_number : Int32) : va_W := [(a_t, .inr (1, [.ref a_t_fragment, .int t_length, .int t_open, .int t_number]))]
abbrev wsX1_size : List Cond := .code yX1_size cX1_size 1 (some .int) :: BG
abbrev rmX1_size : Room := { frames := 0, cells := 0, slots := 0, locals := 0 }
noncomputable def fX1_size (t_length : Int32) : Option (Int32) := some (t_length)
set_option maxHeartbeats 4000000 in
set_option maxRecDepth 100000 in
theorem wX1_size_E {p : Program} {l : Launch} {e : Env} {s : State} {m : MethodId} {args : Array Value} {below : List Frame} {meth : Method} {c : Code} {G : GT} {A : Nat → Prop} (C : cxt p s m args meth c cX1_size (some .int) 1 "OutStation$Assembly" wsX1_size G A) {a_t : Nat} {a_t_fragment : Nat} {t_length : Int32} {t_open : Int32} {t_number : Int32} {out : Int32} : ∀ (H : Heap) (locs : List Loc) (ls : Array Slot), fX1_size t_length = some out → va_P G.1 vwCl (wdX1_size G a_t a_t_fragment t_length t_open t_number) H → va_D A (wdX1_size G a_t a_t_fragment t_length t_open t_number) → va_S A s.heap H locs → lv_has ls 1 [(0, .ref a_t)] → W p l e rmX1_size s m args below meth c H locs 0 0 (MQ below (gQi G A out (wdX1_size G a_t a_t_fragment t_length t_open t_number)) args s 0 0 A) (F0 m 0 ls []) := by
  obtain ⟨hx, hb, hr, hml, hown, hts, hlocks, hA, hK⟩ := id C
  have hB : ∀ w ∈ BG, w.before args s = true := fun w h => hts w (List.mem_cons_of_mem _ h)
  intro H locs ls h hP hD hS hl
  unfold fX1_size at h
  refine lv_aload_n hx hb dX1_size_0 rfl (lv_at hl 0 rfl) ?_
  refine va_get (D := G.1) (ci := 1) (v := .int t_length) (C := RX1) (T := TX1) (N := 4) hx hb hB iX1 hown hK.1 hP 0 rfl rfl 1 (by decide) (hB _ kw125) (fun _ h9 => h9) rfl dX1_size_1 ?_
  obtain rfl := Option.some.inj h
  exact W.iret (v := t_length) hx hb hr (fun t ht hW => ⟨⟨_, (), rfl, rfl, by rw [ht]; exact hP, hD⟩, hS.F ht⟩) hS.2.2 dX1_size_4
set_option maxHeartbeats 4000000 in
set_option maxRecDepth 100000 in
theorem mX1_size (l : Launch) (G : GT) (a_t : Nat) (a_t_fragment : Nat) (t_length : Int32) (t_open : Int32) (t_number : Int32) (sz : Nat) (out : Int32) (h : fX1_size t_length = some out) : Met l yX1_size wsX1_size rmX1_size (gPc G [.ref a_t] sz (wdX1_size G a_t a_t_fragment t_length t_open t_number)) (gQi G (va_A (wdX1_size G a_t a_t_fragment t_length t_open t_number) sz) out (wdX1_size G a_t a_t_fragment t_length t_open t_number)) 0 0 (va_A (wdX1_size G a_t a_t_fragment t_length t_open t_number) sz) := by
  refine Met.ofW (cc := cX1_size) (maxL := 1) (ret := (some .int)) (by decide) rfl ?_
  intro p e s m args below meth c s₁ B hml hv
  obtain ⟨rfl, hsz, hP, hK, hD0⟩ := hv
  have hts := atoms_spec (ws := wsX1_size) B.pre
  have hown : s.vm.findClass "OutStation$Assembly" = some m.cls := findClass_of_methodNamed B.named
  subst hsz
  have hD := hD0.self (sz := s.heap.size)
  generalize hAe : va_A (wdX1_size G a_t a_t_fragment t_length t_open t_number) s.heap.size = A at hD ⊢
  have hA : ∀ q : Nat, s.heap.size ≤ q → A q := fun q h => by rw [← hAe]; exact Or.inr h
  have hS : va_S A s.heap s.heap [] := va_S.rf
  have hl := lv_entry ([.ref a_t]) (n := 1) (Nat.le_of_ble_eq_true rfl)
  rw [lg_entry_eq]
  generalize (lg_sl ([.ref a_t]) ++ List.replicate (1 - (lg_sl ([.ref a_t])).length) Slot.unset).toArray = ls at hl ⊢
  exact wX1_size_E ⟨B.exec, B.bytes, B.returns, hml, hown, hts, B.notSynchronized, hA, hK⟩  _ _ _ h hP hD hS hl
/-! ### OutStation$Assembly.beginOrGoOn (ZI)V -/
abbrev wdX1_beginOrGoOn (G : GT) (a_t : Nat) (a_t_fragment : Nat) (t_length : Int32) (t_open : Int32) (t_number : Int32) : va_W := [(a_t, .inr (1, [.ref a_t_fragment, .int t_length, .int t_open, .int t_number]))]
abbrev wsX1_beginOrGoOn : List Cond := .code yX1_beginOrGoOn cX1_beginOrGoOn 3 none :: BG
abbrev rmX1_beginOrGoOn : Room := { frames := 0, cells := 0, slots := 0, locals := 0 }
noncomputable def fX1_beginOrGoOn_L35 (x2 : Int32) (t_length : Int32) (t_open : Int32) (t_number : Int32) : Option (Int32 × Int32 × Int32) := some (t_length, t_open, x2)
set_option maxHeartbeats 4000000 in
set_option maxRecDepth 100000 in
theorem wX1_beginOrGoOn_L35 {p : Program} {l : Launch} {e : Env} {s : State} {m : MethodId} {args : Array Value} {below : List Frame} {meth : Method} {c : Code} {G : GT} {A : Nat → Prop} (C : cxt p s m args meth c cX1_beginOrGoOn none 3 "OutStation$Assembly" wsX1_beginOrGoOn G A) {a_t : Nat} {a_t_fragment : Nat} {out : Int32 × Int32 × Int32} : ∀ (x2 : Int32) (t_length : Int32) (t_open : Int32) (t_number : Int32) (H : Heap) (locs : List Loc) (ls : Array Slot), fX1_beginOrGoOn_L35 x2 t_length t_open t_number = some out → va_P G.1 vwCl (wdX1_beginOrGoOn G a_t a_t_fragment t_length t_open t_number) H → va_D A (wdX1_beginOrGoOn G a_t a_t_fragment t_length t_open t_number) → va_S A s.heap H locs → lv_has ls 3 [(0, .ref a_t), (2, .int x2)] → W p l e rmX1_beginOrGoOn s m args below meth c H locs 0 0 (MQ below (gQv G A (wdX1_beginOrGoOn G a_t a_t_fragment out.1 out.2.1 out.2.2)) args s 0 0 A) (F0 m 35 ls []) := by
  obtain ⟨hx, hb, hr, hml, hown, hts, hlocks, hA, hK⟩ := id C
  have hB : ∀ w ∈ BG, w.before args s = true := fun w h => hts w (List.mem_cons_of_mem _ h)
  intro x2 t_length t_open t_number H locs ls h hP hD hS hl
  unfold fX1_beginOrGoOn_L35 at h
  refine lv_aload_n hx hb dX1_beginOrGoOn_35 rfl (lv_at hl 0 rfl) ?_
  refine lv_iload_n hx hb dX1_beginOrGoOn_36 rfl (lv_at hl 1 rfl) ?_
  refine va_put (D := G.1) (ci := 1) (v := .int x2) (ty := .int) (C := RX1) (T := TX1) (N := 4) hx hb hB iX1 tyX1 tyX1_ok nmX1 hown hK.1 hP hD hS 0 rfl rfl 3 (by decide) (hB _ kw127) (fun _ h9 => h9) rfl (by decide +kernel) rfl rfl (Nat.le_of_ble_eq_true rfl) dX1_beginOrGoOn_37 (fun H locs hP hD hS => ?_)
  have hP : va_P G.1 vwCl (wdX1_beginOrGoOn G a_t a_t_fragment t_length t_open x2) H := hP
  have hD : va_D A (wdX1_beginOrGoOn G a_t a_t_fragment t_length t_open x2) := hD
  obtain rfl := Option.some.inj h
  exact W.vret hx hb hr (fun t ht hW => ⟨⟨(), rfl, trivial, by rw [ht]; exact hP, hD⟩, hS.F ht⟩) hS.2.2 dX1_beginOrGoOn_40
noncomputable def fX1_beginOrGoOn (x1 : Int32) (x2 : Int32) (t_length : Int32) (t_open : Int32) (t_number : Int32) : Option (Int32 × Int32 × Int32) := brc (x1 = 0) (brc (x2 = ((t_number + (1 : Int32)) &&& (63 : Int32))) (fX1_beginOrGoOn_L35 x2 t_length t_open t_number) (fX1_beginOrGoOn_L35 x2 t_length (0 : Int32) t_number)) (fX1_beginOrGoOn_L35 x2 (0 : Int32) (1 : Int32) t_number)
set_option maxHeartbeats 4000000 in
set_option maxRecDepth 100000 in
theorem wX1_beginOrGoOn_E {p : Program} {l : Launch} {e : Env} {s : State} {m : MethodId} {args : Array Value} {below : List Frame} {meth : Method} {c : Code} {G : GT} {A : Nat → Prop} (C : cxt p s m args meth c cX1_beginOrGoOn none 3 "OutStation$Assembly" wsX1_beginOrGoOn G A) {a_t : Nat} {a_t_fragment : Nat} {out : Int32 × Int32 × Int32} : ∀ (x1 : Int32) (x2 : Int32) (t_length : Int32) (t_open : Int32) (t_number : Int32) (H : Heap) (locs : List Loc) (ls : Array Slot), fX1_beginOrGoOn x1 x2 t_length t_open t_number = some out → va_P G.1 vwCl (wdX1_beginOrGoOn G a_t a_t_fragment t_length t_open t_number) H → va_D A (wdX1_beginOrGoOn G a_t a_t_fragment t_length t_open t_number) → va_S A s.heap H locs → lv_has ls 3 [(0, .ref a_t), (1, .int x1), (2, .int x2)] → W p l e rmX1_beginOrGoOn s m args below meth c H locs 0 0 (MQ below (gQv G A (wdX1_beginOrGoOn G a_t a_t_fragment out.1 out.2.1 out.2.2)) args s 0 0 A) (F0 m 0 ls []) := by
  obtain ⟨hx, hb, hr, hml, hown, hts, hlocks, hA, hK⟩ := id C
  have hB : ∀ w ∈ BG, w.before args s = true := fun w h => hts w (List.mem_cons_of_mem _ h)
  intro x1 x2 t_length t_open t_number H locs ls h hP hD hS hl
  unfold fX1_beginOrGoOn at h
  refine lv_iload_n hx hb dX1_beginOrGoOn_0 rfl (lv_at hl 1 rfl) ?_
  refine lv_if_eq (tgt := 17) hx hb dX1_beginOrGoOn_1 (by decide) (fun hc1 => ?_) (fun hc1 => ?_)
  · have h := brc_tt h hc1
    refine lv_iload_n hx hb dX1_beginOrGoOn_17 rfl (lv_at hl 2 rfl) ?_
    refine lv_aload_n hx hb dX1_beginOrGoOn_18 rfl (lv_at hl 0 rfl) ?_
    refine va_get (D := G.1) (ci := 1) (v := .int t_number) (C := RX1) (T := TX1) (N := 4) hx hb hB iX1 hown hK.1 hP 0 rfl rfl 3 (by decide) (hB _ kw127) (fun _ h9 => h9) rfl dX1_beginOrGoOn_19 ?_
    refine lv_iconst (v := (1 : Int32)) hx hb dX1_beginOrGoOn_22 (by decide) ?_
    refine lv_iadd hx hb dX1_beginOrGoOn_23 ?_
    refine lv_bipush (v := (63 : Int32)) hx hb dX1_beginOrGoOn_24 (by decide) ?_
    refine lv_iand hx hb dX1_beginOrGoOn_26 ?_
    refine lv_icmp_eq (tgt := 35) hx hb dX1_beginOrGoOn_27 (by decide) (fun hc27 => ?_) (fun hc27 => ?_)
    · have h := brc_tt h hc27
      exact wX1_beginOrGoOn_L35 C x2 t_length t_open t_number _ _ _ h hP hD hS (lv_sub hl [0, 2] rfl)
    · have h := brc_ff h hc27
      refine lv_aload_n hx hb dX1_beginOrGoOn_30 rfl (lv_at hl 0 rfl) ?_
      refine lv_iconst (v := (0 : Int32)) hx hb dX1_beginOrGoOn_31 (by decide) ?_
      refine va_put (D := G.1) (ci := 1) (v := .int (0 : Int32)) (ty := .boolean) (C := RX1) (T := TX1) (N := 4) hx hb hB iX1 tyX1 tyX1_ok nmX1 hown hK.1 hP hD hS 0 rfl rfl 2 (by decide) (hB _ kw126) (fun _ h9 => h9) rfl (by decide +kernel) (isB_nar (Or.inl rfl)) (isB_fit (Or.inl rfl)) (Nat.le_of_ble_eq_true rfl) dX1_beginOrGoOn_32 (fun H locs hP hD hS => ?_)
      have hP : va_P G.1 vwCl (wdX1_beginOrGoOn G a_t a_t_fragment t_length (0 : Int32) t_number) H := hP
      have hD : va_D A (wdX1_beginOrGoOn G a_t a_t_fragment t_length (0 : Int32) t_number) := hD
      exact wX1_beginOrGoOn_L35 C x2 t_length (0 : Int32) t_number _ _ _ h hP hD hS (lv_sub hl [0, 2] rfl)
  · have h := brc_ff h hc1
    refine lv_aload_n hx hb dX1_beginOrGoOn_4 rfl (lv_at hl 0 rfl) ?_
    refine lv_iconst (v := (1 : Int32)) hx hb dX1_beginOrGoOn_5 (by decide) ?_
    refine va_put (D := G.1) (ci := 1) (v := .int (1 : Int32)) (ty := .boolean) (C := RX1) (T := TX1) (N := 4) hx hb hB iX1 tyX1 tyX1_ok nmX1 hown hK.1 hP hD hS 0 rfl rfl 2 (by decide) (hB _ kw126) (fun _ h9 => h9) rfl (by decide +kernel) (isB_nar (Or.inr rfl)) (isB_fit (Or.inr rfl)) (Nat.le_of_ble_eq_true rfl) dX1_beginOrGoOn_6 (fun H locs hP hD hS => ?_)
    have hP : va_P G.1 vwCl (wdX1_beginOrGoOn G a_t a_t_fragment t_length (1 : Int32) t_number) H := hP
    have hD : va_D A (wdX1_beginOrGoOn G a_t a_t_fragment t_length (1 : Int32) t_number) := hD
    refine lv_aload_n hx hb dX1_beginOrGoOn_9 rfl (lv_at hl 0 rfl) ?_
    refine lv_iconst (v := (0 : Int32)) hx hb dX1_beginOrGoOn_10 (by decide) ?_
    refine va_put (D := G.1) (ci := 1) (v := .int (0 : Int32)) (ty := .int) (C := RX1) (T := TX1) (N := 4) hx hb hB iX1 tyX1 tyX1_ok nmX1 hown hK.1 hP hD hS 0 rfl rfl 1 (by decide) (hB _ kw125) (fun _ h9 => h9) rfl (by decide +kernel) rfl rfl (Nat.le_of_ble_eq_true rfl) dX1_beginOrGoOn_11 (fun H locs hP hD hS => ?_)
    have hP : va_P G.1 vwCl (wdX1_beginOrGoOn G a_t a_t_fragment (0 : Int32) (1 : Int32) t_number) H := hP
    have hD : va_D A (wdX1_beginOrGoOn G a_t a_t_fragment (0 : Int32) (1 : Int32) t_number) := hD
    refine lv_goto (tgt := 35) hx hb dX1_beginOrGoOn_14 (by decide) ?_
    exact wX1_beginOrGoOn_L35 C x2 (0 : Int32) (1 : Int32) t_number _ _ _ h hP hD hS (lv_sub hl [0, 2] rfl)
set_option maxHeartbeats 4000000 in
set_option maxRecDepth 100000 in
theorem mX1_beginOrGoOn (l : Launch) (G : GT) (a_t : Nat) (a_t_fragment : Nat) (x1 : Int32) (x2 : Int32) (t_length : Int32) (t_open : Int32) (t_number : Int32) (sz : Nat) (out : Int32 × Int32 × Int32) (h : fX1_beginOrGoOn x1 x2 t_length t_open t_number = some out) : Met l yX1_beginOrGoOn wsX1_beginOrGoOn rmX1_beginOrGoOn (gPc G [.ref a_t, .int x1, .int x2] sz (wdX1_beginOrGoOn G a_t a_t_fragment t_length t_open t_number)) (gQv G (va_A (wdX1_beginOrGoOn G a_t a_t_fragment t_length t_open t_number) sz) (wdX1_beginOrGoOn G a_t a_t_fragment out.1 out.2.1 out.2.2)) 0 0 (va_A (wdX1_beginOrGoOn G a_t a_t_fragment t_length t_open t_number) sz) := by
  refine Met.ofW (cc := cX1_beginOrGoOn) (maxL := 3) (ret := none) (by decide) rfl ?_
  intro p e s m args below meth c s₁ B hml hv
  obtain ⟨rfl, hsz, hP, hK, hD0⟩ := hv
  have hts := atoms_spec (ws := wsX1_beginOrGoOn) B.pre
  have hown : s.vm.findClass "OutStation$Assembly" = some m.cls := findClass_of_methodNamed B.named
  subst hsz
  have hD := hD0.self (sz := s.heap.size)
  generalize hAe : va_A (wdX1_beginOrGoOn G a_t a_t_fragment t_length t_open t_number) s.heap.size = A at hD ⊢
  have hA : ∀ q : Nat, s.heap.size ≤ q → A q := fun q h => by rw [← hAe]; exact Or.inr h
  have hS : va_S A s.heap s.heap [] := va_S.rf
  have hl := lv_entry ([.ref a_t, .int x1, .int x2]) (n := 3) (Nat.le_of_ble_eq_true rfl)
  rw [lg_entry_eq]
  generalize (lg_sl ([.ref a_t, .int x1, .int x2]) ++ List.replicate (3 - (lg_sl ([.ref a_t, .int x1, .int x2])).length) Slot.unset).toArray = ls at hl ⊢
  exact wX1_beginOrGoOn_E ⟨B.exec, B.bytes, B.returns, hml, hown, hts, B.notSynchronized, hA, hK⟩ x1 x2 t_length t_open t_number _ _ _ h hP hD hS hl
/-! ### OutStation$Assembly.addSegment ([II)Z -/
abbrev wdX1_addSegment (G : GT) (a_t : Nat) (a_t_fragment : Nat) (a_p1 : Nat) (N_p1 : Nat) (t_length : Int32) (t_open : Int32) (t_number : Int32) (t_fragment : Nat → Int32) (p1 : Nat → Int32) : va_W := [(a_t, .inr (1, [.ref a_t_fragment, .int t_length, .int t_open, .int t_number])), (a_t_fragment, .inl (G.2.1, 249, .inl t_fragment)), (a_p1, .inl (G.2.1, N_p1, .inl p1))]
abbrev wsX1_addSegment : List Cond := .code yX1_addSegment cX1_addSegment 4 (some .boolean) :: BG
abbrev rmX1_addSegment : Room := { frames := 1, cells := 0, slots := 0, locals := 30 }
noncomputable def fX1_addSegment_L136 (N_p1 : Nat) (p1 : Nat → Int32) (s0 : Int32) (t_length : Int32) (t_open : Int32) (t_number : Int32) (t_fragment : Nat → Int32) : Option (Int32 × Int32 × Int32 × Int32 × (Nat → Int32)) := grd (isB s0) (some (s0, t_length, t_open, t_number, t_fragment))
set_option maxHeartbeats 4000000 in
set_option maxRecDepth 100000 in
theorem wX1_addSegment_L136 {p : Program} {l : Launch} {e : Env} {s : State} {m : MethodId} {args : Array Value} {below : List Frame} {meth : Method} {c : Code} {G : GT} {A : Nat → Prop} (C : cxt p s m args meth c cX1_addSegment (some .boolean) 4 "OutStation$Assembly" wsX1_addSegment G A) {a_t : Nat} {a_t_fragment : Nat} {a_p1 : Nat} {N_p1 : Nat} {p1 : Nat → Int32} {out : Int32 × Int32 × Int32 × Int32 × (Nat → Int32)} : ∀ (s0 : Int32) (t_length : Int32) (t_open : Int32) (t_number : Int32) (t_fragment : Nat → Int32) (H : Heap) (locs : List Loc) (ls : Array Slot), fX1_addSegment_L136 N_p1 p1 s0 t_length t_open t_number t_fragment = some out → va_P G.1 vwCl (wdX1_addSegment G a_t a_t_fragment a_p1 N_p1 t_length t_open t_number t_fragment p1) H → va_D A (wdX1_addSegment G a_t a_t_fragment a_p1 N_p1 t_length t_open t_number t_fragment p1) → va_S A s.heap H locs → lv_has ls 4 [] → W p l e rmX1_addSegment s m args below meth c H locs 0 0 (MQ below (gQi G A out.1 (wdX1_addSegment G a_t a_t_fragment a_p1 N_p1 out.2.1 out.2.2.1 out.2.2.2.1 out.2.2.2.2 p1)) args s 0 0 A) (F0 m 136 ls [.int s0]) := by
  obtain ⟨hx, hb, hr, hml, hown, hts, hlocks, hA, hK⟩ := id C
  have hB : ∀ w ∈ BG, w.before args s = true := fun w h => hts w (List.mem_cons_of_mem _ h)
  intro s0 t_length t_open t_number t_fragment H locs ls h hP hD hS hl
  unfold fX1_addSegment_L136 at h
  obtain ⟨hg1, h⟩ := grd_some h
  obtain rfl := Option.some.inj h
  exact W.zret (v := s0) hx hb hr (isB_nar hg1) (fun t ht hW => ⟨⟨_, (), rfl, rfl, by rw [ht]; exact hP, hD⟩, hS.F ht⟩) hS.2.2 dX1_addSegment_136
noncomputable def fX1_addSegment_L135 (N_p1 : Nat) (p1 : Nat → Int32) (t_length : Int32) (t_open : Int32) (t_number : Int32) (t_fragment : Nat → Int32) : Option (Int32 × Int32 × Int32 × Int32 × (Nat → Int32)) := fX1_addSegment_L136 N_p1 p1 (0 : Int32) t_length t_open t_number t_fragment
set_option maxHeartbeats 4000000 in
set_option maxRecDepth 100000 in
theorem wX1_addSegment_L135 {p : Program} {l : Launch} {e : Env} {s : State} {m : MethodId} {args : Array Value} {below : List Frame} {meth : Method} {c : Code} {G : GT} {A : Nat → Prop} (C : cxt p s m args meth c cX1_addSegment (some .boolean) 4 "OutStation$Assembly" wsX1_addSegment G A) {a_t : Nat} {a_t_fragment : Nat} {a_p1 : Nat} {N_p1 : Nat} {p1 : Nat → Int32} {out : Int32 × Int32 × Int32 × Int32 × (Nat → Int32)} : ∀ (t_length : Int32) (t_open : Int32) (t_number : Int32) (t_fragment : Nat → Int32) (H : Heap) (locs : List Loc) (ls : Array Slot), fX1_addSegment_L135 N_p1 p1 t_length t_open t_number t_fragment = some out → va_P G.1 vwCl (wdX1_addSegment G a_t a_t_fragment a_p1 N_p1 t_length t_open t_number t_fragment p1) H → va_D A (wdX1_addSegment G a_t a_t_fragment a_p1 N_p1 t_length t_open t_number t_fragment p1) → va_S A s.heap H locs → lv_has ls 4 [] → W p l e rmX1_addSegment s m args below meth c H locs 0 0 (MQ below (gQi G A out.1 (wdX1_addSegment G a_t a_t_fragment a_p1 N_p1 out.2.1 out.2.2.1 out.2.2.2.1 out.2.2.2.2 p1)) args s 0 0 A) (F0 m 135 ls []) := by
  obtain ⟨hx, hb, hr, hml, hown, hts, hlocks, hA, hK⟩ := id C
  have hB : ∀ w ∈ BG, w.before args s = true := fun w h => hts w (List.mem_cons_of_mem _ h)
  intro t_length t_open t_number t_fragment H locs ls h hP hD hS hl
  unfold fX1_addSegment_L135 at h
  refine lv_iconst (v := (0 : Int32)) hx hb dX1_addSegment_135 (by decide) ?_
  exact wX1_addSegment_L136 C (0 : Int32) t_length t_open t_number t_fragment _ _ _ h hP hD hS (lv_sub hl [] rfl)
noncomputable def fX1_addSegment_L55 (N_p1 : Nat) (p1 : Nat → Int32) (x2 : Int32) (x3 : Int32) (t_length : Int32) (t_open : Int32) (t_number : Int32) (t_fragment : Nat → Int32) : Option (Int32 × Int32 × Int32 × Int32 × (Nat → Int32)) := brc (t_open = 0) (some ((0 : Int32), t_length, t_open, t_number, t_fragment)) (grd (¬ (1 : Int32) < 0 ∧ ¬ t_length < 0 ∧ ¬ (x2 - (1 : Int32)) < 0 ∧ ix (1 : Int32) + ix (x2 - (1 : Int32)) ≤ N_p1 ∧ ix t_length + ix (x2 - (1 : Int32)) ≤ 249) (brc ((x3 &&& (128 : Int32)) = 0) (some ((0 : Int32), (t_length + (x2 - (1 : Int32))), t_open, t_number, (va_cpy p1 t_fragment (ix (1 : Int32)) (ix t_length) (ix (x2 - (1 : Int32)))))) (brc ((t_length + (x2 - (1 : Int32))) < (2 : Int32)) (fX1_addSegment_L135 N_p1 p1 (t_length + (x2 - (1 : Int32))) (0 : Int32) t_number (va_cpy p1 t_fragment (ix (1 : Int32)) (ix t_length) (ix (x2 - (1 : Int32))))) (brc ((((va_cpy p1 t_fragment (ix (1 : Int32)) (ix t_length) (ix (x2 - (1 : Int32)))) (ix (0 : Int32))) &&& (192 : Int32)) = (192 : Int32)) (fX1_addSegment_L136 N_p1 p1 (1 : Int32) (t_length + (x2 - (1 : Int32))) (0 : Int32) t_number (va_cpy p1 t_fragment (ix (1 : Int32)) (ix t_length) (ix (x2 - (1 : Int32))))) (fX1_addSegment_L135 N_p1 p1 (t_length + (x2 - (1 : Int32))) (0 : Int32) t_number (va_cpy p1 t_fragment (ix (1 : Int32)) (ix t_length) (ix (x2 - (1 : Int32)))))))))
set_option maxHeartbeats 4000000 in
set_option maxRecDepth 100000 in
theorem wX1_addSegment_L55 {p : Program} {l : Launch} {e : Env} {s : State} {m : MethodId} {args : Array Value} {below : List Frame} {meth : Method} {c : Code} {G : GT} {A : Nat → Prop} (C : cxt p s m args meth c cX1_addSegment (some .boolean) 4 "OutStation$Assembly" wsX1_addSegment G A) {a_t : Nat} {a_t_fragment : Nat} {a_p1 : Nat} {N_p1 : Nat} {p1 : Nat → Int32} {out : Int32 × Int32 × Int32 × Int32 × (Nat → Int32)} : ∀ (x2 : Int32) (x3 : Int32) (t_length : Int32) (t_open : Int32) (t_number : Int32) (t_fragment : Nat → Int32) (H : Heap) (locs : List Loc) (ls : Array Slot), fX1_addSegment_L55 N_p1 p1 x2 x3 t_length t_open t_number t_fragment = some out → va_P G.1 vwCl (wdX1_addSegment G a_t a_t_fragment a_p1 N_p1 t_length t_open t_number t_fragment p1) H → va_D A (wdX1_addSegment G a_t a_t_fragment a_p1 N_p1 t_length t_open t_number t_fragment p1) → va_S A s.heap H locs → lv_has ls 4 [(0, .ref a_t), (1, .ref a_p1), (2, .int x2), (3, .int x3)] → W p l e rmX1_addSegment s m args below meth c H locs 0 0 (MQ below (gQi G A out.1 (wdX1_addSegment G a_t a_t_fragment a_p1 N_p1 out.2.1 out.2.2.1 out.2.2.2.1 out.2.2.2.2 p1)) args s 0 0 A) (F0 m 55 ls []) := by
  obtain ⟨hx, hb, hr, hml, hown, hts, hlocks, hA, hK⟩ := id C
  have hB : ∀ w ∈ BG, w.before args s = true := fun w h => hts w (List.mem_cons_of_mem _ h)
  intro x2 x3 t_length t_open t_number t_fragment H locs ls h hP hD hS hl
  unfold fX1_addSegment_L55 at h
  refine lv_aload_n hx hb dX1_addSegment_55 rfl (lv_at hl 0 rfl) ?_
  refine va_get (D := G.1) (ci := 1) (v := .int t_open) (C := RX1) (T := TX1) (N := 4) hx hb hB iX1 hown hK.1 hP 0 rfl rfl 2 (by decide) (hB _ kw126) (fun _ h9 => h9) rfl dX1_addSegment_56 ?_
  refine lv_if_ne (tgt := 64) hx hb dX1_addSegment_59 (by decide) (fun hc59 => ?_) (fun hc59 => ?_)
  · have h := brc_ff h hc59
    refine lv_aload_n hx hb dX1_addSegment_64 rfl (lv_at hl 1 rfl) ?_
    refine lv_iconst (v := (1 : Int32)) hx hb dX1_addSegment_65 (by decide) ?_
    refine lv_aload_n hx hb dX1_addSegment_66 rfl (lv_at hl 0 rfl) ?_
    refine va_get (D := G.1) (ci := 1) (v := .ref a_t_fragment) (C := RX1) (T := TX1) (N := 4) hx hb hB iX1 hown hK.1 hP 0 rfl rfl 0 (by decide) (hB _ kw124) (fun _ h9 => h9) rfl dX1_addSegment_67 ?_
    refine lv_aload_n hx hb dX1_addSegment_70 rfl (lv_at hl 0 rfl) ?_
    refine va_get (D := G.1) (ci := 1) (v := .int t_length) (C := RX1) (T := TX1) (N := 4) hx hb hB iX1 hown hK.1 hP 0 rfl rfl 1 (by decide) (hB _ kw125) (fun _ h9 => h9) rfl dX1_addSegment_71 ?_
    refine lv_iload_n hx hb dX1_addSegment_74 rfl (lv_at hl 2 rfl) ?_
    refine lv_iconst (v := (1 : Int32)) hx hb dX1_addSegment_75 (by decide) ?_
    refine lv_isub hx hb dX1_addSegment_76 ?_
    obtain ⟨hg1, h⟩ := grd_some h
    refine va_copyi hx hb (hml.trans hl.1.symm) hown (hB _ kw520) (hB _ kw457) (hB _ kw456) (hB _ kw62) hK.1 hP hD hS 2 1 0 0 rfl rfl rfl rfl rfl hg1.1 hg1.2.1 hg1.2.2.1 hg1.2.2.2.1 hg1.2.2.2.2 (fun _ _ => rfl) (Nat.le_of_ble_eq_true rfl) (Nat.le_of_ble_eq_true rfl) dX1_addSegment_77 (fun H locs hP hD hS => ?_)
    have hP : va_P G.1 vwCl (wdX1_addSegment G a_t a_t_fragment a_p1 N_p1 t_length t_open t_number (va_cpy p1 t_fragment (ix (1 : Int32)) (ix t_length) (ix (x2 - (1 : Int32)))) p1) H := hP
    have hD : va_D A (wdX1_addSegment G a_t a_t_fragment a_p1 N_p1 t_length t_open t_number (va_cpy p1 t_fragment (ix (1 : Int32)) (ix t_length) (ix (x2 - (1 : Int32)))) p1) := hD
    refine lv_aload_n hx hb dX1_addSegment_80 rfl (lv_at hl 0 rfl) ?_
    refine lv_dup hx hb dX1_addSegment_81 rfl ?_
    refine va_get (D := G.1) (ci := 1) (v := .int t_length) (C := RX1) (T := TX1) (N := 4) hx hb hB iX1 hown hK.1 hP 0 rfl rfl 1 (by decide) (hB _ kw125) (fun _ h9 => h9) rfl dX1_addSegment_82 ?_
    refine lv_iload_n hx hb dX1_addSegment_85 rfl (lv_at hl 2 rfl) ?_
    refine lv_iconst (v := (1 : Int32)) hx hb dX1_addSegment_86 (by decide) ?_
    refine lv_isub hx hb dX1_addSegment_87 ?_
    refine lv_iadd hx hb dX1_addSegment_88 ?_
    refine va_put (D := G.1) (ci := 1) (v := .int (t_length + (x2 - (1 : Int32)))) (ty := .int) (C := RX1) (T := TX1) (N := 4) hx hb hB iX1 tyX1 tyX1_ok nmX1 hown hK.1 hP hD hS 0 rfl rfl 1 (by decide) (hB _ kw125) (fun _ h9 => h9) rfl (by decide +kernel) rfl rfl (Nat.le_of_ble_eq_true rfl) dX1_addSegment_89 (fun H locs hP hD hS => ?_)
    have hP : va_P G.1 vwCl (wdX1_addSegment G a_t a_t_fragment a_p1 N_p1 (t_length + (x2 - (1 : Int32))) t_open t_number (va_cpy p1 t_fragment (ix (1 : Int32)) (ix t_length) (ix (x2 - (1 : Int32)))) p1) H := hP
    have hD : va_D A (wdX1_addSegment G a_t a_t_fragment a_p1 N_p1 (t_length + (x2 - (1 : Int32))) t_open t_number (va_cpy p1 t_fragment (ix (1 : Int32)) (ix t_length) (ix (x2 - (1 : Int32)))) p1) := hD
    refine lv_iload_n hx hb dX1_addSegment_92 rfl (lv_at hl 3 rfl) ?_
    refine lv_sipush (v := (128 : Int32)) hx hb dX1_addSegment_93 (by decide) ?_
    refine lv_iand hx hb dX1_addSegment_96 ?_
    refine lv_if_ne (tgt := 102) hx hb dX1_addSegment_97 (by decide) (fun hc97 => ?_) (fun hc97 => ?_)
    · have h := brc_ff h hc97
      refine lv_aload_n hx hb dX1_addSegment_102 rfl (lv_at hl 0 rfl) ?_
      refine lv_iconst (v := (0 : Int32)) hx hb dX1_addSegment_103 (by decide) ?_
      refine va_put (D := G.1) (ci := 1) (v := .int (0 : Int32)) (ty := .boolean) (C := RX1) (T := TX1) (N := 4) hx hb hB iX1 tyX1 tyX1_ok nmX1 hown hK.1 hP hD hS 0 rfl rfl 2 (by decide) (hB _ kw126) (fun _ h9 => h9) rfl (by decide +kernel) (isB_nar (Or.inl rfl)) (isB_fit (Or.inl rfl)) (Nat.le_of_ble_eq_true rfl) dX1_addSegment_104 (fun H locs hP hD hS => ?_)
      have hP : va_P G.1 vwCl (wdX1_addSegment G a_t a_t_fragment a_p1 N_p1 (t_length + (x2 - (1 : Int32))) (0 : Int32) t_number (va_cpy p1 t_fragment (ix (1 : Int32)) (ix t_length) (ix (x2 - (1 : Int32)))) p1) H := hP
      have hD : va_D A (wdX1_addSegment G a_t a_t_fragment a_p1 N_p1 (t_length + (x2 - (1 : Int32))) (0 : Int32) t_number (va_cpy p1 t_fragment (ix (1 : Int32)) (ix t_length) (ix (x2 - (1 : Int32)))) p1) := hD
      refine lv_aload_n hx hb dX1_addSegment_107 rfl (lv_at hl 0 rfl) ?_
      refine va_get (D := G.1) (ci := 1) (v := .int (t_length + (x2 - (1 : Int32)))) (C := RX1) (T := TX1) (N := 4) hx hb hB iX1 hown hK.1 hP 0 rfl rfl 1 (by decide) (hB _ kw125) (fun _ h9 => h9) rfl dX1_addSegment_108 ?_
      refine lv_iconst (v := (2 : Int32)) hx hb dX1_addSegment_111 (by decide) ?_
      refine lv_icmp_lt (tgt := 135) hx hb dX1_addSegment_112 (by decide) (fun hc112 => ?_) (fun hc112 => ?_)
      · have h := brc_tt h hc112
        exact wX1_addSegment_L135 C (t_length + (x2 - (1 : Int32))) (0 : Int32) t_number (va_cpy p1 t_fragment (ix (1 : Int32)) (ix t_length) (ix (x2 - (1 : Int32)))) _ _ _ h hP hD hS (lv_sub hl [] rfl)
      · have h := brc_ff h hc112
        refine lv_aload_n hx hb dX1_addSegment_115 rfl (lv_at hl 0 rfl) ?_
        refine va_get (D := G.1) (ci := 1) (v := .ref a_t_fragment) (C := RX1) (T := TX1) (N := 4) hx hb hB iX1 hown hK.1 hP 0 rfl rfl 0 (by decide) (hB _ kw124) (fun _ h9 => h9) rfl dX1_addSegment_116 ?_
        refine lv_iconst (v := (0 : Int32)) hx hb dX1_addSegment_119 (by decide) ?_
        refine va_iald hx hb hK.1 hP 1 0 rfl rfl (vp_in_nI (n := 0) (N := 249) (by decide) (by decide)) dX1_addSegment_120 ?_
        refine lv_sipush (v := (192 : Int32)) hx hb dX1_addSegment_121 (by decide) ?_
        refine lv_iand hx hb dX1_addSegment_124 ?_
        refine lv_sipush (v := (192 : Int32)) hx hb dX1_addSegment_125 (by decide) ?_
        refine lv_icmp_ne (tgt := 135) hx hb dX1_addSegment_128 (by decide) (fun hc128 => ?_) (fun hc128 => ?_)
        · have h := brc_ff h hc128
          exact wX1_addSegment_L135 C (t_length + (x2 - (1 : Int32))) (0 : Int32) t_number (va_cpy p1 t_fragment (ix (1 : Int32)) (ix t_length) (ix (x2 - (1 : Int32)))) _ _ _ h hP hD hS (lv_sub hl [] rfl)
        · have h := brc_tt h hc128
          refine lv_iconst (v := (1 : Int32)) hx hb dX1_addSegment_131 (by decide) ?_
          refine lv_goto (tgt := 136) hx hb dX1_addSegment_132 (by decide) ?_
          exact wX1_addSegment_L136 C (1 : Int32) (t_length + (x2 - (1 : Int32))) (0 : Int32) t_number (va_cpy p1 t_fragment (ix (1 : Int32)) (ix t_length) (ix (x2 - (1 : Int32)))) _ _ _ h hP hD hS (lv_sub hl [] rfl)
    · have h := brc_tt h hc97
      refine lv_iconst (v := (0 : Int32)) hx hb dX1_addSegment_100 (by decide) ?_
      obtain rfl := Option.some.inj h
      exact W.zret (v := (0 : Int32)) hx hb hr (isB_nar (Or.inl rfl)) (fun t ht hW => ⟨⟨_, (), rfl, rfl, by rw [ht]; exact hP, hD⟩, hS.F ht⟩) hS.2.2 dX1_addSegment_101
  · have h := brc_tt h hc59
    refine lv_iconst (v := (0 : Int32)) hx hb dX1_addSegment_62 (by decide) ?_
    obtain rfl := Option.some.inj h
    exact W.zret (v := (0 : Int32)) hx hb hr (isB_nar (Or.inl rfl)) (fun t ht hW => ⟨⟨_, (), rfl, rfl, by rw [ht]; exact hP, hD⟩, hS.F ht⟩) hS.2.2 dX1_addSegment_63
noncomputable def fX1_addSegment_L29 (N_p1 : Nat) (p1 : Nat → Int32) (x2 : Int32) (x3 : Int32) (s0 : Int32) (t_length : Int32) (t_open : Int32) (t_number : Int32) (t_fragment : Nat → Int32) : Option (Int32 × Int32 × Int32 × Int32 × (Nat → Int32)) := bnd (fX1_beginOrGoOn s0 (x3 &&& (63 : Int32)) t_length t_open t_number) (fun u1 => brc (((u1.1 + x2) - (1 : Int32)) ≤ (249 : Int32)) (fX1_addSegment_L55 N_p1 p1 x2 x3 u1.1 u1.2.1 u1.2.2 t_fragment) (fX1_addSegment_L55 N_p1 p1 x2 x3 u1.1 (0 : Int32) u1.2.2 t_fragment))
set_option maxHeartbeats 4000000 in
set_option maxRecDepth 100000 in
theorem wX1_addSegment_L29 {p : Program} {l : Launch} {e : Env} {s : State} {m : MethodId} {args : Array Value} {below : List Frame} {meth : Method} {c : Code} {G : GT} {A : Nat → Prop} (C : cxt p s m args meth c cX1_addSegment (some .boolean) 4 "OutStation$Assembly" wsX1_addSegment G A) {a_t : Nat} {a_t_fragment : Nat} {a_p1 : Nat} {N_p1 : Nat} {p1 : Nat → Int32} {out : Int32 × Int32 × Int32 × Int32 × (Nat → Int32)} : ∀ (x2 : Int32) (x3 : Int32) (s0 : Int32) (t_length : Int32) (t_open : Int32) (t_number : Int32) (t_fragment : Nat → Int32) (H : Heap) (locs : List Loc) (ls : Array Slot), fX1_addSegment_L29 N_p1 p1 x2 x3 s0 t_length t_open t_number t_fragment = some out → va_P G.1 vwCl (wdX1_addSegment G a_t a_t_fragment a_p1 N_p1 t_length t_open t_number t_fragment p1) H → va_D A (wdX1_addSegment G a_t a_t_fragment a_p1 N_p1 t_length t_open t_number t_fragment p1) → va_S A s.heap H locs → lv_has ls 4 [(0, .ref a_t), (1, .ref a_p1), (2, .int x2), (3, .int x3)] → W p l e rmX1_addSegment s m args below meth c H locs 0 0 (MQ below (gQi G A out.1 (wdX1_addSegment G a_t a_t_fragment a_p1 N_p1 out.2.1 out.2.2.1 out.2.2.2.1 out.2.2.2.2 p1)) args s 0 0 A) (F0 m 29 ls [.int s0, .ref a_t]) := by
  obtain ⟨hx, hb, hr, hml, hown, hts, hlocks, hA, hK⟩ := id C
  have hB : ∀ w ∈ BG, w.before args s = true := fun w h => hts w (List.mem_cons_of_mem _ h)
  intro x2 x3 s0 t_length t_open t_number t_fragment H locs ls h hP hD hS hl
  unfold fX1_addSegment_L29 at h
  refine lv_iload_n hx hb dX1_addSegment_29 rfl (lv_at hl 3 rfl) ?_
  refine lv_bipush (v := (63 : Int32)) hx hb dX1_addSegment_30 (by decide) ?_
  refine lv_iand hx hb dX1_addSegment_32 ?_
  obtain ⟨u1, hu1, h⟩ := bnd_some h
  have hPc := hP.sub (ws' := (wdX1_beginOrGoOn G a_t a_t_fragment t_length t_open t_number)) [0] rfl
  have hDc := hD.sub (ws' := (wdX1_beginOrGoOn G a_t a_t_fragment t_length t_open t_number)) [0] (by decide) rfl
  refine g_v (wc := (wdX1_beginOrGoOn G a_t a_t_fragment t_length t_open t_number)) (w1 := (wdX1_beginOrGoOn G a_t a_t_fragment u1.1 u1.2.1 u1.2.2)) (w2 := (wdX1_addSegment G a_t a_t_fragment a_p1 N_p1 u1.1 u1.2.1 u1.2.2 t_fragment p1)) (va_runV (As := [.int s0, .int (x3 &&& (63 : Int32))]) (rest := []) ⟨hx, hb, hml, hown, hts⟩ (mX1_beginOrGoOn l G a_t a_t_fragment s0 (x3 &&& (63 : Int32)) t_length t_open t_number H.size u1 hu1) ⟨(callB_of 2 hts (bgIn kw519) rfl rfl rfl (hB _ kw49) (hB _ kw516) hdX1_beginOrGoOn ⟨(Nat.le_of_ble_eq_true rfl), (Nat.le_of_ble_eq_true rfl)⟩), hB _ kw518, hB _ kw13⟩ (gPreV (ci := 1) (qr := 0) hK hPc hDc rfl rfl rfl) rfl rfl hl.1 rfl (lv_room (Nat.le_of_ble_eq_true rfl)) dX1_addSegment_33 ⟨(Nat.le_of_ble_eq_true rfl), (Nat.le_of_ble_eq_true rfl)⟩) hP hD hS hA [0] rfl rfl [.inr 0, .inl 1, .inl 2] rfl rfl (fun H locs hP hD hS => ?_)
  refine lv_aload_n hx hb dX1_addSegment_36 rfl (lv_at hl 0 rfl) ?_
  refine va_get (D := G.1) (ci := 1) (v := .int u1.1) (C := RX1) (T := TX1) (N := 4) hx hb hB iX1 hown hK.1 hP 0 rfl rfl 1 (by decide) (hB _ kw125) (fun _ h9 => h9) rfl dX1_addSegment_37 ?_
  refine lv_iload_n hx hb dX1_addSegment_40 rfl (lv_at hl 2 rfl) ?_
  refine lv_iadd hx hb dX1_addSegment_41 ?_
  refine lv_iconst (v := (1 : Int32)) hx hb dX1_addSegment_42 (by decide) ?_
  refine lv_isub hx hb dX1_addSegment_43 ?_
  refine lv_sipush (v := (249 : Int32)) hx hb dX1_addSegment_44 (by decide) ?_
  refine lv_icmp_le (tgt := 55) hx hb dX1_addSegment_47 (by decide) (fun hc47 => ?_) (fun hc47 => ?_)
  · have h := brc_tt h hc47
    exact wX1_addSegment_L55 C x2 x3 u1.1 u1.2.1 u1.2.2 t_fragment _ _ _ h hP hD hS (lv_sub hl [0, 1, 2, 3] rfl)
  · have h := brc_ff h hc47
    refine lv_aload_n hx hb dX1_addSegment_50 rfl (lv_at hl 0 rfl) ?_
    refine lv_iconst (v := (0 : Int32)) hx hb dX1_addSegment_51 (by decide) ?_
    refine va_put (D := G.1) (ci := 1) (v := .int (0 : Int32)) (ty := .boolean) (C := RX1) (T := TX1) (N := 4) hx hb hB iX1 tyX1 tyX1_ok nmX1 hown hK.1 hP hD hS 0 rfl rfl 2 (by decide) (hB _ kw126) (fun _ h9 => h9) rfl (by decide +kernel) (isB_nar (Or.inl rfl)) (isB_fit (Or.inl rfl)) (Nat.le_of_ble_eq_true rfl) dX1_addSegment_52 (fun H locs hP hD hS => ?_)
    have hP : va_P G.1 vwCl (wdX1_addSegment G a_t a_t_fragment a_p1 N_p1 u1.1 (0 : Int32) u1.2.2 t_fragment p1) H := hP
    have hD : va_D A (wdX1_addSegment G a_t a_t_fragment a_p1 N_p1 u1.1 (0 : Int32) u1.2.2 t_fragment p1) := hD
    exact wX1_addSegment_L55 C x2 x3 u1.1 (0 : Int32) u1.2.2 t_fragment _ _ _ h hP hD hS (lv_sub hl [0, 1, 2, 3] rfl)
noncomputable def fX1_addSegment (N_p1 : Nat) (p1 : Nat → Int32) (x2 : Int32) (t_length : Int32) (t_open : Int32) (t_number : Int32) (t_fragment : Nat → Int32) : Option (Int32 × Int32 × Int32 × Int32 × (Nat → Int32)) := brc ((1 : Int32) ≤ x2) (grd (vp_in (0 : Int32) N_p1) (brc (((p1 (ix (0 : Int32))) &&& (64 : Int32)) = 0) (fX1_addSegment_L29 N_p1 p1 x2 (p1 (ix (0 : Int32))) (0 : Int32) t_length t_open t_number t_fragment) (fX1_addSegment_L29 N_p1 p1 x2 (p1 (ix (0 : Int32))) (1 : Int32) t_length t_open t_number t_fragment))) (some ((0 : Int32), t_length, (0 : Int32), t_number, t_fragment))
set_option maxHeartbeats 4000000 in
set_option maxRecDepth 100000 in
theorem wX1_addSegment_E {p : Program} {l : Launch} {e : Env} {s : State} {m : MethodId} {args : Array Value} {below : List Frame} {meth : Method} {c : Code} {G : GT} {A : Nat → Prop} (C : cxt p s m args meth c cX1_addSegment (some .boolean) 4 "OutStation$Assembly" wsX1_addSegment G A) {a_t : Nat} {a_t_fragment : Nat} {a_p1 : Nat} {N_p1 : Nat} {p1 : Nat → Int32} {out : Int32 × Int32 × Int32 × Int32 × (Nat → Int32)} : ∀ (x2 : Int32) (t_length : Int32) (t_open : Int32) (t_number : Int32) (t_fragment : Nat → Int32) (H : Heap) (locs : List Loc) (ls : Array Slot), fX1_addSegment N_p1 p1 x2 t_length t_open t_number t_fragment = some out → va_P G.1 vwCl (wdX1_addSegment G a_t a_t_fragment a_p1 N_p1 t_length t_open t_number t_fragment p1) H → va_D A (wdX1_addSegment G a_t a_t_fragment a_p1 N_p1 t_length t_open t_number t_fragment p1) → va_S A s.heap H locs → lv_has ls 4 [(0, .ref a_t), (1, .ref a_p1), (2, .int x2)] → W p l e rmX1_addSegment s m args below meth c H locs 0 0 (MQ below (gQi G A out.1 (wdX1_addSegment G a_t a_t_fragment a_p1 N_p1 out.2.1 out.2.2.1 out.2.2.2.1 out.2.2.2.2 p1)) args s 0 0 A) (F0 m 0 ls []) := by
  obtain ⟨hx, hb, hr, hml, hown, hts, hlocks, hA, hK⟩ := id C
  have hB : ∀ w ∈ BG, w.before args s = true := fun w h => hts w (List.mem_cons_of_mem _ h)
  intro x2 t_length t_open t_number t_fragment H locs ls h hP hD hS hl
  unfold fX1_addSegment at h
  refine lv_iload_n hx hb dX1_addSegment_0 rfl (lv_at hl 2 rfl) ?_
  refine lv_iconst (v := (1 : Int32)) hx hb dX1_addSegment_1 (by decide) ?_
  refine lv_icmp_ge (tgt := 12) hx hb dX1_addSegment_2 (by decide) (fun hc2 => ?_) (fun hc2 => ?_)
  · have h := brc_tt h hc2
    refine lv_aload_n hx hb dX1_addSegment_12 rfl (lv_at hl 1 rfl) ?_
    refine lv_iconst (v := (0 : Int32)) hx hb dX1_addSegment_13 (by decide) ?_
    obtain ⟨hg1, h⟩ := grd_some h
    refine va_iald hx hb hK.1 hP 2 0 rfl rfl hg1 dX1_addSegment_14 ?_
    refine lv_istore_n (lv' := [(3, .int (p1 (ix (0 : Int32)))), (0, .ref a_t), (1, .ref a_p1), (2, .int x2)]) hx hb dX1_addSegment_15 rfl hl (by decide) rfl (fun ls hl => ?_)
    refine lv_aload_n hx hb dX1_addSegment_16 rfl (lv_at hl 1 rfl) ?_
    refine lv_iload_n hx hb dX1_addSegment_17 rfl (lv_at hl 0 rfl) ?_
    refine lv_bipush (v := (64 : Int32)) hx hb dX1_addSegment_18 (by decide) ?_
    refine lv_iand hx hb dX1_addSegment_20 ?_
    refine lv_if_eq (tgt := 28) hx hb dX1_addSegment_21 (by decide) (fun hc21 => ?_) (fun hc21 => ?_)
    · have h := brc_tt h hc21
      refine lv_iconst (v := (0 : Int32)) hx hb dX1_addSegment_28 (by decide) ?_
      exact wX1_addSegment_L29 C x2 (p1 (ix (0 : Int32))) (0 : Int32) t_length t_open t_number t_fragment _ _ _ h hP hD hS (lv_sub hl [1, 2, 3, 0] rfl)
    · have h := brc_ff h hc21
      refine lv_iconst (v := (1 : Int32)) hx hb dX1_addSegment_24 (by decide) ?_
      refine lv_goto (tgt := 29) hx hb dX1_addSegment_25 (by decide) ?_
      exact wX1_addSegment_L29 C x2 (p1 (ix (0 : Int32))) (1 : Int32) t_length t_open t_number t_fragment _ _ _ h hP hD hS (lv_sub hl [1, 2, 3, 0] rfl)
  · have h := brc_ff h hc2
    refine lv_aload_n hx hb dX1_addSegment_5 rfl (lv_at hl 0 rfl) ?_
    refine lv_iconst (v := (0 : Int32)) hx hb dX1_addSegment_6 (by decide) ?_
    refine va_put (D := G.1) (ci := 1) (v := .int (0 : Int32)) (ty := .boolean) (C := RX1) (T := TX1) (N := 4) hx hb hB iX1 tyX1 tyX1_ok nmX1 hown hK.1 hP hD hS 0 rfl rfl 2 (by decide) (hB _ kw126) (fun _ h9 => h9) rfl (by decide +kernel) (isB_nar (Or.inl rfl)) (isB_fit (Or.inl rfl)) (Nat.le_of_ble_eq_true rfl) dX1_addSegment_7 (fun H locs hP hD hS => ?_)
    have hP : va_P G.1 vwCl (wdX1_addSegment G a_t a_t_fragment a_p1 N_p1 t_length (0 : Int32) t_number t_fragment p1) H := hP
    have hD : va_D A (wdX1_addSegment G a_t a_t_fragment a_p1 N_p1 t_length (0 : Int32) t_number t_fragment p1) := hD
    refine lv_iconst (v := (0 : Int32)) hx hb dX1_addSegment_10 (by decide) ?_
    obtain rfl := Option.some.inj h
    exact W.zret (v := (0 : Int32)) hx hb hr (isB_nar (Or.inl rfl)) (fun t ht hW => ⟨⟨_, (), rfl, rfl, by rw [ht]; exact hP, hD⟩, hS.F ht⟩) hS.2.2 dX1_addSegment_11
set_option maxHeartbeats 4000000 in
set_option maxRecDepth 100000 in
theorem mX1_addSegment (l : Launch) (G : GT) (a_t : Nat) (a_t_fragment : Nat) (a_p1 : Nat) (N_p1 : Nat) (p1 : Nat → Int32) (x2 : Int32) (t_length : Int32) (t_open : Int32) (t_number : Int32) (t_fragment : Nat → Int32) (sz : Nat) (out : Int32 × Int32 × Int32 × Int32 × (Nat → Int32)) (h : fX1_addSegment N_p1 p1 x2 t_length t_open t_number t_fragment = some out) : Met l yX1_addSegment wsX1_addSegment rmX1_addSegment (gPc G [.ref a_t, .ref a_p1, .int x2] sz (wdX1_addSegment G a_t a_t_fragment a_p1 N_p1 t_length t_open t_number t_fragment p1)) (gQi G (va_A (wdX1_addSegment G a_t a_t_fragment a_p1 N_p1 t_length t_open t_number t_fragment p1) sz) out.1 (wdX1_addSegment G a_t a_t_fragment a_p1 N_p1 out.2.1 out.2.2.1 out.2.2.2.1 out.2.2.2.2 p1)) 0 0 (va_A (wdX1_addSegment G a_t a_t_fragment a_p1 N_p1 t_length t_open t_number t_fragment p1) sz) := by
  refine Met.ofW (cc := cX1_addSegment) (maxL := 4) (ret := (some .boolean)) (by decide) rfl ?_
  intro p e s m args below meth c s₁ B hml hv
  obtain ⟨rfl, hsz, hP, hK, hD0⟩ := hv
  have hts := atoms_spec (ws := wsX1_addSegment) B.pre
  have hown : s.vm.findClass "OutStation$Assembly" = some m.cls := findClass_of_methodNamed B.named
  subst hsz
  have hD := hD0.self (sz := s.heap.size)
  generalize hAe : va_A (wdX1_addSegment G a_t a_t_fragment a_p1 N_p1 t_length t_open t_number t_fragment p1) s.heap.size = A at hD ⊢
  have hA : ∀ q : Nat, s.heap.size ≤ q → A q := fun q h => by rw [← hAe]; exact Or.inr h
  have hS : va_S A s.heap s.heap [] := va_S.rf
  have hl := lv_entry ([.ref a_t, .ref a_p1, .int x2]) (n := 4) (Nat.le_of_ble_eq_true rfl)
  rw [lg_entry_eq]
  generalize (lg_sl ([.ref a_t, .ref a_p1, .int x2]) ++ List.replicate (4 - (lg_sl ([.ref a_t, .ref a_p1, .int x2])).length) Slot.unset).toArray = ls at hl ⊢
  exact wX1_addSegment_E ⟨B.exec, B.bytes, B.returns, hml, hown, hts, B.notSynchronized, hA, hK⟩ x2 t_length t_open t_number t_fragment _ _ _ h hP hD hS hl
