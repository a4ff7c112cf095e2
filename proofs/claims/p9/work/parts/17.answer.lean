/-! ### OutStation$Answer.isFor ([II)Z -/
abbrev wdX0_isFor (G : GT) (a_t : Nat) (a_t_request : Nat) (a_p1 : Nat) (a_t_row : Nat) (N_p1 : Nat) (t_length : Int32) (t_requestLength : Int32) (t_faults : Int32) (t_withBinaries : Int32) (t_withAnalogs : Int32) (t_withEvents : Int32) (t_request : Nat → Int32) (p1 : Nat → Int32) : va_W := [(a_t, .inr (0, [.ref a_t_row, .int t_length, .ref a_t_request, .int t_requestLength, .int t_faults, .int t_withBinaries, .int t_withAnalogs, .int t_withEvents])), (a_t_request, .inl (G.2.1, 249, .inl t_request)), (a_p1, .inl (G.2.1, N_p1, .inl p1))]
abbrev wsX0_isFor : List Cond := .code yX0_isFor cX0_isFor 4 (some .boolean) :: BG
abbrev rmX0_isFor : Room := { frames := 0, cells := 0, slots := 0, locals := 0 }
noncomputable def fX0_isFor_L12 (N_p1 : Nat) (t_requestLength : Int32) (t_request : Nat → Int32) (p1 : Nat → Int32) (n : Nat) : Int32 → Int32 → Option (Int32) := Nat.rec (motive := fun _ => Int32 → Int32 → Option (Int32)) (fun _ _ => none) (fun _ k_L12 x2 x3 => brc (x2 ≤ x3) (some ((1 : Int32))) (grd (vp_in x3 N_p1) (grd (vp_in x3 249) (brc ((p1 (ix x3)) = (t_request (ix x3))) (k_L12 x2 (x3 + (1 : Int32))) (some ((0 : Int32))))))) n
set_option maxHeartbeats 4000000 in
set_option maxRecDepth 100000 in
theorem wX0_isFor_L12 {p : Program} {l : Launch} {e : Env} {s : State} {m : MethodId} {args : Array Value} {below : List Frame} {meth : Method} {c : Code} {G : GT} {A : Nat → Prop} (C : cxt p s m args meth c cX0_isFor (some .boolean) 4 "OutStation$Answer" wsX0_isFor G A) {a_t : Nat} {a_t_request : Nat} {a_p1 : Nat} {a_t_row : Nat} {N_p1 : Nat} {t_length : Int32} {t_requestLength : Int32} {t_faults : Int32} {t_withBinaries : Int32} {t_withAnalogs : Int32} {t_withEvents : Int32} {t_request : Nat → Int32} {p1 : Nat → Int32} {out : Int32} : ∀ (n : Nat) (x2 : Int32) (x3 : Int32) (H : Heap) (locs : List Loc) (ls : Array Slot), fX0_isFor_L12 N_p1 t_requestLength t_request p1 n x2 x3 = some out → va_P G.1 vwCl (wdX0_isFor G a_t a_t_request a_p1 a_t_row N_p1 t_length t_requestLength t_faults t_withBinaries t_withAnalogs t_withEvents t_request p1) H → va_D A (wdX0_isFor G a_t a_t_request a_p1 a_t_row N_p1 t_length t_requestLength t_faults t_withBinaries t_withAnalogs t_withEvents t_request p1) → va_S A s.heap H locs → lv_has ls 4 [(0, .ref a_t), (1, .ref a_p1), (2, .int x2), (3, .int x3)] → W p l e rmX0_isFor s m args below meth c H locs 0 0 (MQ below (gQi G A out (wdX0_isFor G a_t a_t_request a_p1 a_t_row N_p1 t_length t_requestLength t_faults t_withBinaries t_withAnalogs t_withEvents t_request p1)) args s 0 0 A) (F0 m 12 ls []) := by
  obtain ⟨hx, hb, hr, hml, hown, hts, hlocks, hA, hK⟩ := id C
  have hB : ∀ w ∈ BG, w.before args s = true := fun w h => hts w (List.mem_cons_of_mem _ h)
  intro n
  induction n with
  | zero =>
    intro x2 x3 H locs ls h hP hD hS hl
    cases h
  | succ n ih =>
    intro x2 x3 H locs ls h hP hD hS hl
    replace h : brc (x2 ≤ x3) (some ((1 : Int32))) (grd (vp_in x3 N_p1) (grd (vp_in x3 249) (brc ((p1 (ix x3)) = (t_request (ix x3))) ((fX0_isFor_L12 N_p1 t_requestLength t_request p1 n) x2 (x3 + (1 : Int32))) (some ((0 : Int32)))))) = some out := h
    refine lv_iload_n hx hb dX0_isFor_12 rfl (lv_at hl 3 rfl) ?_
    refine lv_iload_n hx hb dX0_isFor_13 rfl (lv_at hl 2 rfl) ?_
    refine lv_icmp_ge (tgt := 37) hx hb dX0_isFor_14 (by decide) (fun hc14 => ?_) (fun hc14 => ?_)
    · have h := brc_tt h hc14
      refine lv_iconst (v := (1 : Int32)) hx hb dX0_isFor_37 (by decide) ?_
      obtain rfl := Option.some.inj h
      exact W.zret (v := (1 : Int32)) hx hb hr (isB_nar (Or.inr rfl)) (fun t ht hW => ⟨⟨_, (), rfl, rfl, by rw [ht]; exact hP, hD⟩, hS.F ht⟩) hS.2.2 dX0_isFor_38
    · have h := brc_ff h hc14
      refine lv_aload_n hx hb dX0_isFor_17 rfl (lv_at hl 1 rfl) ?_
      refine lv_iload_n hx hb dX0_isFor_18 rfl (lv_at hl 3 rfl) ?_
      obtain ⟨hg1, h⟩ := grd_some h
      refine va_iald hx hb hK.1 hP 2 0 rfl rfl hg1 dX0_isFor_19 ?_
      refine lv_aload_n hx hb dX0_isFor_20 rfl (lv_at hl 0 rfl) ?_
      refine va_get (D := G.1) (ci := 0) (v := .ref a_t_request) (C := RX0) (T := TX0) (N := 8) hx hb hB iX0 hown hK.1 hP 0 rfl rfl 2 (by decide) (hB _ kw145) (fun _ h9 => h9) rfl dX0_isFor_21 ?_
      refine lv_iload_n hx hb dX0_isFor_24 rfl (lv_at hl 3 rfl) ?_
      obtain ⟨hg2, h⟩ := grd_some h
      refine va_iald hx hb hK.1 hP 1 0 rfl rfl hg2 dX0_isFor_25 ?_
      refine lv_icmp_eq (tgt := 31) hx hb dX0_isFor_26 (by decide) (fun hc26 => ?_) (fun hc26 => ?_)
      · have h := brc_tt h hc26
        refine lv_iinc (v := (x3 + (1 : Int32))) (lv' := [(3, .int (x3 + (1 : Int32))), (0, .ref a_t), (1, .ref a_p1), (2, .int x2)]) hx hb dX0_isFor_31 hl (k := 3) rfl rfl (by decide) rfl (fun ls hl => ?_)
        refine lv_goto (tgt := 12) hx hb dX0_isFor_34 (by decide) ?_
        exact ih x2 (x3 + (1 : Int32)) _ _ _ h hP hD hS (lv_sub hl [1, 2, 3, 0] rfl)
      · have h := brc_ff h hc26
        refine lv_iconst (v := (0 : Int32)) hx hb dX0_isFor_29 (by decide) ?_
        obtain rfl := Option.some.inj h
        exact W.zret (v := (0 : Int32)) hx hb hr (isB_nar (Or.inl rfl)) (fun t ht hW => ⟨⟨_, (), rfl, rfl, by rw [ht]; exact hP, hD⟩, hS.F ht⟩) hS.2.2 dX0_isFor_30
noncomputable def fX0_isFor (N_p1 : Nat) (t_requestLength : Int32) (t_request : Nat → Int32) (p1 : Nat → Int32) (x2 : Int32) : Option (Int32) := brc (x2 = t_requestLength) (fX0_isFor_L12 N_p1 t_requestLength t_request p1 FU x2 (0 : Int32)) (some ((0 : Int32)))
set_option maxHeartbeats 4000000 in
set_option maxRecDepth 100000 in
theorem wX0_isFor_E {p : Program} {l : Launch} {e : Env} {s : State} {m : MethodId} {args : Array Value} {below : List Frame} {meth : Method} {c : Code} {G : GT} {A : Nat → Prop} (C : cxt p s m args meth c cX0_isFor (some .boolean) 4 "OutStation$Answer" wsX0_isFor G A) {a_t : Nat} {a_t_request : Nat} {a_p1 : Nat} {a_t_row : Nat} {N_p1 : Nat} {t_length : Int32} {t_requestLength : Int32} {t_faults : Int32} {t_withBinaries : Int32} {t_withAnalogs : Int32} {t_withEvents : Int32} {t_request : Nat → Int32} {p1 : Nat → Int32} {out : Int32} : ∀ (x2 : Int32) (H : Heap) (locs : List Loc) (ls : Array Slot), fX0_isFor N_p1 t_requestLength t_request p1 x2 = some out → va_P G.1 vwCl (wdX0_isFor G a_t a_t_request a_p1 a_t_row N_p1 t_length t_requestLength t_faults t_withBinaries t_withAnalogs t_withEvents t_request p1) H → va_D A (wdX0_isFor G a_t a_t_request a_p1 a_t_row N_p1 t_length t_requestLength t_faults t_withBinaries t_withAnalogs t_withEvents t_request p1) → va_S A s.heap H locs → lv_has ls 4 [(0, .ref a_t), (1, .ref a_p1), (2, .int x2)] → W p l e rmX0_isFor s m args below meth c H locs 0 0 (MQ below (gQi G A out (wdX0_isFor G a_t a_t_request a_p1 a_t_row N_p1 t_length t_requestLength t_faults t_withBinaries t_withAnalogs t_withEvents t_request p1)) args s 0 0 A) (F0 m 0 ls []) := by
  obtain ⟨hx, hb, hr, hml, hown, hts, hlocks, hA, hK⟩ := id C
  have hB : ∀ w ∈ BG, w.before args s = true := fun w h => hts w (List.mem_cons_of_mem _ h)
  intro x2 H locs ls h hP hD hS hl
  unfold fX0_isFor at h
  refine lv_iload_n hx hb dX0_isFor_0 rfl (lv_at hl 2 rfl) ?_
  refine lv_aload_n hx hb dX0_isFor_1 rfl (lv_at hl 0 rfl) ?_
  refine va_get (D := G.1) (ci := 0) (v := .int t_requestLength) (C := RX0) (T := TX0) (N := 8) hx hb hB iX0 hown hK.1 hP 0 rfl rfl 3 (by decide) (hB _ kw146) (fun _ h9 => h9) rfl dX0_isFor_2 ?_
  refine lv_icmp_eq (tgt := 10) hx hb dX0_isFor_5 (by decide) (fun hc5 => ?_) (fun hc5 => ?_)
  · have h := brc_tt h hc5
    refine lv_iconst (v := (0 : Int32)) hx hb dX0_isFor_10 (by decide) ?_
    refine lv_istore_n (lv' := [(3, .int (0 : Int32)), (0, .ref a_t), (1, .ref a_p1), (2, .int x2)]) hx hb dX0_isFor_11 rfl hl (by decide) rfl (fun ls hl => ?_)
    exact wX0_isFor_L12 C FU x2 (0 : Int32) _ _ _ h hP hD hS (lv_sub hl [1, 2, 3, 0] rfl)
  · have h := brc_ff h hc5
    refine lv_iconst (v := (0 : Int32)) hx hb dX0_isFor_8 (by decide) ?_
    obtain rfl := Option.some.inj h
    exact W.zret (v := (0 : Int32)) hx hb hr (isB_nar (Or.inl rfl)) (fun t ht hW => ⟨⟨_, (), rfl, rfl, by rw [ht]; exact hP, hD⟩, hS.F ht⟩) hS.2.2 dX0_isFor_9
set_option maxHeartbeats 4000000 in
set_option maxRecDepth 100000 in
theorem mX0_isFor (l : Launch) (G : GT) (a_t : Nat) (a_t_request : Nat) (a_p1 : Nat) (a_t_row : Nat) (N_p1 : Nat) (t_length : Int32) (t_requestLength : Int32) (t_faults : Int32) (t_withBinaries : Int32) (t_withAnalogs : Int32) (t_withEvents : Int32) (t_request : Nat → Int32) (p1 : Nat → Int32) (x2 : Int32) (sz : Nat) (out : Int32) (h : fX0_isFor N_p1 t_requestLength t_request p1 x2 = some out) : Met l yX0_isFor wsX0_isFor rmX0_isFor (gPc G [.ref a_t, .ref a_p1, .int x2] sz (wdX0_isFor G a_t a_t_request a_p1 a_t_row N_p1 t_length t_requestLength t_faults t_withBinaries t_withAnalogs t_withEvents t_request p1)) (gQi G (va_A (wdX0_isFor G a_t a_t_request a_p1 a_t_row N_p1 t_length t_requestLength t_faults t_withBinaries t_withAnalogs t_withEvents t_request p1) sz) out (wdX0_isFor G a_t a_t_request a_p1 a_t_row N_p1 t_length t_requestLength t_faults t_withBinaries t_withAnalogs t_withEvents t_request p1)) 0 0 (va_A (wdX0_isFor G a_t a_t_request a_p1 a_t_row N_p1 t_length t_requestLength t_faults t_withBinaries t_withAnalogs t_withEvents t_request p1) sz) := by
  refine Met.ofW (cc := cX0_isFor) (maxL := 4) (ret := (some .boolean)) (by decide) rfl ?_
  intro p e s m args below meth c s₁ B hml hv
  obtain ⟨rfl, hsz, hP, hK, hD0⟩ := hv
  have hts := atoms_spec (ws := wsX0_isFor) B.pre
  have hown : s.vm.findClass "OutStation$Answer" = some m.cls := findClass_of_methodNamed B.named
  subst hsz
  have hD := hD0.self (sz := s.heap.size)
  generalize hAe : va_A (wdX0_isFor G a_t a_t_request a_p1 a_t_row N_p1 t_length t_requestLength t_faults t_withBinaries t_withAnalogs t_withEvents t_request p1) s.heap.size = A at hD ⊢
  have hA : ∀ q : Nat, s.heap.size ≤ q → A q := fun q h => by rw [← hAe]; exact Or.inr h
  have hS : va_S A s.heap s.heap [] := va_S.rf
  have hl := lv_entry ([.ref a_t, .ref a_p1, .int x2]) (n := 4) (Nat.le_of_ble_eq_true rfl)
  rw [lg_entry_eq]
  generalize (lg_sl ([.ref a_t, .ref a_p1, .int x2]) ++ List.replicate (4 - (lg_sl ([.ref a_t, .ref a_p1, .int x2])).length) Slot.unset).toArray = ls at hl ⊢
  exact wX0_isFor_E ⟨B.exec, B.bytes, B.returns, hml, hown, hts, B.notSynchronized, hA, hK⟩ x2 _ _ _ h hP hD hS hl
/-! ### OutStation$Answer.bytes ()[I -/
abbrev wdX0_bytes (G : GT) (a_t : Nat) (a_t_row : Nat) (a_t_request : Nat) (t_length : Int32) (t_requestLength : Int32) (t_faults : Int32) (t_withBinaries : Int32) (t_withAnalogs : Int32) (t_withEvents : Int32) : va_W := [(a_t, .inr (0, [.ref a_t_row, .int t_length, .ref a_t_request, .int t_requestLength, .int t_faults, .int t_withBinaries, .int t_withAnalogs, .int t_withEvents]))]
abbrev wsX0_bytes : List Cond := .code yX0_bytes cX0_bytes 1 (some (.array .int)) :: BG
abbrev rmX0_bytes : Room := { frames := 0, cells := 0, slots := 0, locals := 0 }
noncomputable def fX0_bytes : Option (Unit) := some ()
set_option maxHeartbeats 4000000 in
set_option maxRecDepth 100000 in
theorem wX0_bytes_E {p : Program} {l : Launch} {e : Env} {s : State} {m : MethodId} {args : Array Value} {below : List Frame} {meth : Method} {c : Code} {G : GT} {A : Nat → Prop} (C : cxt p s m args meth c cX0_bytes (some (.array .int)) 1 "OutStation$Answer" wsX0_bytes G A) {a_t : Nat} {a_t_row : Nat} {a_t_request : Nat} {t_length : Int32} {t_requestLength : Int32} {t_faults : Int32} {t_withBinaries : Int32} {t_withAnalogs : Int32} {t_withEvents : Int32} {out : Unit} : ∀ (H : Heap) (locs : List Loc) (ls : Array Slot), fX0_bytes = some out → va_P G.1 vwCl (wdX0_bytes G a_t a_t_row a_t_request t_length t_requestLength t_faults t_withBinaries t_withAnalogs t_withEvents) H → va_D A (wdX0_bytes G a_t a_t_row a_t_request t_length t_requestLength t_faults t_withBinaries t_withAnalogs t_withEvents) → va_S A s.heap H locs → lv_has ls 1 [(0, .ref a_t)] → W p l e rmX0_bytes s m args below meth c H locs 0 0 (MQ below (gQr G A a_t_row (wdX0_bytes G a_t a_t_row a_t_request t_length t_requestLength t_faults t_withBinaries t_withAnalogs t_withEvents)) args s 0 0 A) (F0 m 0 ls []) := by
  obtain ⟨hx, hb, hr, hml, hown, hts, hlocks, hA, hK⟩ := id C
  have hB : ∀ w ∈ BG, w.before args s = true := fun w h => hts w (List.mem_cons_of_mem _ h)
  intro H locs ls h hP hD hS hl
  unfold fX0_bytes at h
  refine lv_aload_n hx hb dX0_bytes_0 rfl (lv_at hl 0 rfl) ?_
  refine va_get (D := G.1) (ci := 0) (v := .ref a_t_row) (C := RX0) (T := TX0) (N := 8) hx hb hB iX0 hown hK.1 hP 0 rfl rfl 0 (by decide) (hB _ kw143) (fun _ h9 => h9) rfl dX0_bytes_1 ?_
  obtain rfl := Option.some.inj h
  exact W.aret (v := .ref a_t_row) hx hb hr (Or.inr ⟨_, rfl⟩) (Or.inr ⟨_, rfl⟩) (fun t ht hW => ⟨⟨(), _, rfl, trivial, rfl, by rw [ht]; exact hP, hD⟩, hS.F ht⟩) hS.2.2 dX0_bytes_4
set_option maxHeartbeats 4000000 in
set_option maxRecDepth 100000 in
theorem mX0_bytes (l : Launch) (G : GT) (a_t : Nat) (a_t_row : Nat) (a_t_request : Nat) (t_length : Int32) (t_requestLength : Int32) (t_faults : Int32) (t_withBinaries : Int32) (t_withAnalogs : Int32) (t_withEvents : Int32) (sz : Nat) (out : Unit) (h : fX0_bytes = some out) : Met l yX0_bytes wsX0_bytes rmX0_bytes (gPc G [.ref a_t] sz (wdX0_bytes G a_t a_t_row a_t_request t_length t_requestLength t_faults t_withBinaries t_withAnalogs t_withEvents)) (gQr G (va_A (wdX0_bytes G a_t a_t_row a_t_request t_length t_requestLength t_faults t_withBinaries t_withAnalogs t_withEvents) sz) a_t_row (wdX0_bytes G a_t a_t_row a_t_request t_length t_requestLength t_faults t_withBinaries t_withAnalogs t_withEvents)) 0 0 (va_A (wdX0_bytes G a_t a_t_row a_t_request t_length t_requestLength t_faults t_withBinaries t_withAnalogs t_withEvents) sz) := by
  refine Met.ofW (cc := cX0_bytes) (maxL := 1) (ret := (some (.array .int))) (by decide) rfl ?_
  intro p e s m args below meth c s₁ B hml hv
  obtain ⟨rfl, hsz, hP, hK, hD0⟩ := hv
  have hts := atoms_spec (ws := wsX0_bytes) B.pre
  have hown : s.vm.findClass "OutStation$Answer" = some m.cls := findClass_of_methodNamed B.named
  subst hsz
  have hD := hD0.self (sz := s.heap.size)
  generalize hAe : va_A (wdX0_bytes G a_t a_t_row a_t_request t_length t_requestLength t_faults t_withBinaries t_withAnalogs t_withEvents) s.heap.size = A at hD ⊢
  have hA : ∀ q : Nat, s.heap.size ≤ q → A q := fun q h => by rw [← hAe]; exact Or.inr h
  have hS : va_S A s.heap s.heap [] := va_S.rf
  have hl := lv_entry ([.ref a_t]) (n := 1) (Nat.le_of_ble_eq_true rfl)
  rw [lg_entry_eq]
  generalize (lg_sl ([.ref a_t]) ++ List.replicate (1 - (lg_sl ([.ref a_t])).length) Slot.unset).toArray = ls at hl ⊢
  exact wX0_bytes_E ⟨B.exec, B.bytes, B.returns, hml, hown, hts, B.notSynchronized, hA, hK⟩  _ _ _ h hP hD hS hl
/-! ### OutStation$Answer.size ()I -/
abbrev wdX0_size (G : GT) (a_t : Nat) (a_t_row : Nat) (a_t_request : Nat) (t_length : Int32) (t_requestLength : Int32) (t_faults : Int32) (t_withBinaries : Int32) (t_withAnalogs : Int32) (t_withEvents : Int32) : va_W := [(a_t, .inr (0, [.ref a_t_row, .int t_length, .ref a_t_request, .int t_requestLength, .int t_faults, .int t_withBinaries, .int t_withAnalogs, .int t_withEvents]))]
abbrev wsX0_size : List Cond := .code yX0_size cX0_size 1 (some .int) :: BG
abbrev rmX0_size : Room := { frames := 0, cells := 0, slots := 0, locals := 0 }
noncomputable def fX0_size (t_length : Int32) : Option (Int32) := some (t_length)
set_option maxHeartbeats 4000000 in
set_option maxRecDepth 100000 in
theorem wX0_size_E {p : Program} {l : Launch} {e : Env} {s : State} {m : MethodId} {args : Array Value} {below : List Frame} {meth : Method} {c : Code} {G : GT} {A : Nat → Prop} (C : cxt p s m args meth c cX0_size (some .int) 1 "OutStation$Answer" wsX0_size G A) {a_t : Nat} {a_t_row : Nat} {a_t_request : Nat} {t_length : Int32} {t_requestLength : Int32} {t_faults : Int32} {t_withBinaries : Int32} {t_withAnalogs : Int32} {t_withEvents : Int32} {out : Int32} : ∀ (H : Heap) (locs : List Loc) (ls : Array Slot), fX0_size t_length = some out → va_P G.1 vwCl (wdX0_size G a_t a_t_row a_t_request t_length t_requestLength t_faults t_withBinaries t_withAnalogs t_withEvents) H → va_D A (wdX0_size G a_t a_t_row a_t_request t_length t_requestLength t_faults t_withBinaries t_withAnalogs t_withEvents) → va_S A s.heap H locs → lv_has ls 1 [(0, .ref a_t)] → W p l e rmX0_size s m args below meth c H locs 0 0 (MQ below (gQi G A out (wdX0_size G a_t a_t_row a_t_request t_length t_requestLength t_faults t_withBinaries t_withAnalogs t_withEvents)) args s 0 0 A) (F0 m 0 ls []) := by
  obtain ⟨hx, hb, hr, hml, hown, hts, hlocks, hA, hK⟩ := id C
  have hB : ∀ w ∈ BG, w.before args s = true := fun w h => hts w (List.mem_cons_of_mem _ h)
  intro H locs ls h hP hD hS hl
  unfold fX0_size at h
  refine lv_aload_n hx hb dX0_size_0 rfl (lv_at hl 0 rfl) ?_
  refine va_get (D := G.1) (ci := 0) (v := .int t_length) (C := RX0) (T := TX0) (N := 8) hx hb hB iX0 hown hK.1 hP 0 rfl rfl 1 (by decide) (hB _ kw144) (fun _ h9 => h9) rfl dX0_size_1 ?_
  obtain rfl := Option.some.inj h
  exact W.iret (v := t_length) hx hb hr (fun t ht hW => ⟨⟨_, (), rfl, rfl, by rw [ht]; exact hP, hD⟩, hS.F ht⟩) hS.2.2 dX0_size_4
set_option maxHeartbeats 4000000 in
set_option maxRecDepth 100000 in
theorem mX0_size (l : Launch) (G : GT) (a_t : Nat) (a_t_row : Nat) (a_t_request : Nat) (t_length : Int32) (t_requestLength : Int32) (t_faults : Int32) (t_withBinaries : Int32) (t_withAnalogs : Int32) (t_withEvents : Int32) (sz : Nat) (out : Int32) (h : fX0_size t_length = some out) : Met l yX0_size wsX0_size rmX0_size (gPc G [.ref a_t] sz (wdX0_size G a_t a_t_row a_t_request t_length t_requestLength t_faults t_withBinaries t_withAnalogs t_withEvents)) (gQi G (va_A (wdX0_size G a_t a_t_row a_t_request t_length t_requestLength t_faults t_withBinaries t_withAnalogs t_withEvents) sz) out (wdX0_size G a_t a_t_row a_t_request t_length t_requestLength t_faults t_withBinaries t_withAnalogs t_withEvents)) 0 0 (va_A (wdX0_size G a_t a_t_row a_t_request t_length t_requestLength t_faults t_withBinaries t_withAnalogs t_withEvents) sz) := by
  refine Met.ofW (cc := cX0_size) (maxL := 1) (ret := (some .int)) (by decide) rfl ?_
  intro p e s m args below meth c s₁ B hml hv
  obtain ⟨rfl, hsz, hP, hK, hD0⟩ := hv
  have hts := atoms_spec (ws := wsX0_size) B.pre
  have hown : s.vm.findClass "OutStation$Answer" = some m.cls := findClass_of_methodNamed B.named
  subst hsz
  have hD := hD0.self (sz := s.heap.size)
  generalize hAe : va_A (wdX0_size G a_t a_t_row a_t_request t_length t_requestLength t_faults t_withBinaries t_withAnalogs t_withEvents) s.heap.size = A at hD ⊢
  have hA : ∀ q : Nat, s.heap.size ≤ q → A q := fun q h => by rw [← hAe]; exact Or.inr h
  have hS : va_S A s.heap s.heap [] := va_S.rf
  have hl := lv_entry ([.ref a_t]) (n := 1) (Nat.le_of_ble_eq_true rfl)
  rw [lg_entry_eq]
  generalize (lg_sl ([.ref a_t]) ++ List.replicate (1 - (lg_sl ([.ref a_t])).length) Slot.unset).toArray = ls at hl ⊢
  exact wX0_size_E ⟨B.exec, B.bytes, B.returns, hml, hown, hts, B.notSynchronized, hA, hK⟩  _ _ _ h hP hD hS hl
/-! ### OutStation$Answer.hasEvents ()Z -/
abbrev wdX0_hasEvents (G : GT) (a_t : Nat) (a_t_row : Nat) (a_t_request : Nat) (t_length : Int32) (t_requestLength : Int32) (t_faults : Int32) (t_withBinaries : Int32) (t_withAnalogs : Int32) (t_withEvents : Int32) : va_W := [(a_t, .inr (0, [.ref a_t_row, .int t_length, .ref a_t_request, .int t_requestLength, .int t_faults, .int t_withBinaries, .int t_withAnalogs, .int t_withEvents]))]
abbrev wsX0_hasEvents : List Cond := .code yX0_hasEvents cX0_hasEvents 1 (some .boolean) :: BG
abbrev rmX0_hasEvents : Room := { frames := 0, cells := 0, slots := 0, locals := 0 }
noncomputable def fX0_hasEvents (t_withEvents : Int32) : Option (Int32) := grd (isB t_withEvents) (some (t_withEvents))
set_option maxHeartbeats 4000000 in
set_option maxRecDepth 100000 in
theorem wX0_hasEvents_E {p : Program} {l : Launch} {e : Env} {s : State} {m : MethodId} {args : Array Value} {below : List Frame} {meth : Method} {c : Code} {G : GT} {A : Nat → Prop} (C : cxt p s m args meth c cX0_hasEvents (some .boolean) 1 "OutStation$Answer" wsX0_hasEvents G A) {a_t : Nat} {a_t_row : Nat} {a_t_request : Nat} {t_length : Int32} {t_requestLength : Int32} {t_faults : Int32} {t_withBinaries : Int32} {t_withAnalogs : Int32} {t_withEvents : Int32} {out : Int32} : ∀ (H : Heap) (locs : List Loc) (ls : Array Slot), fX0_hasEvents t_withEvents = some out → va_P G.1 vwCl (wdX0_hasEvents G a_t a_t_row a_t_request t_length t_requestLength t_faults t_withBinaries t_withAnalogs t_withEvents) H → va_D A (wdX0_hasEvents G a_t a_t_row a_t_request t_length t_requestLength t_faults t_withBinaries t_withAnalogs t_withEvents) → va_S A s.heap H locs → lv_has ls 1 [(0, .ref a_t)] → W p l e rmX0_hasEvents s m args below meth c H locs 0 0 (MQ below (gQi G A out (wdX0_hasEvents G a_t a_t_row a_t_request t_length t_requestLength t_faults t_withBinaries t_withAnalogs t_withEvents)) args s 0 0 A) (F0 m 0 ls []) := by
  obtain ⟨hx, hb, hr, hml, hown, hts, hlocks, hA, hK⟩ := id C
  have hB : ∀ w ∈ BG, w.before args s = true := fun w h => hts w (List.mem_cons_of_mem _ h)
  intro H locs ls h hP hD hS hl
  unfold fX0_hasEvents at h
  refine lv_aload_n hx hb dX0_hasEvents_0 rfl (lv_at hl 0 rfl) ?_
  refine va_get (D := G.1) (ci := 0) (v := .int t_withEvents) (C := RX0) (T := TX0) (N := 8) hx hb hB iX0 hown hK.1 hP 0 rfl rfl 7 (by decide) (hB _ kw150) (fun _ h9 => h9) rfl dX0_hasEvents_1 ?_
  obtain ⟨hg1, h⟩ := grd_some h
  obtain rfl := Option.some.inj h
  exact W.zret (v := t_withEvents) hx hb hr (isB_nar hg1) (fun t ht hW => ⟨⟨_, (), rfl, rfl, by rw [ht]; exact hP, hD⟩, hS.F ht⟩) hS.2.2 dX0_hasEvents_4
set_option maxHeartbeats 4000000 in
set_option maxRecDepth 100000 in
theorem mX0_hasEvents (l : Launch) (G : GT) (a_t : Nat) (a_t_row : Nat) (a_t_request : Nat) (t_length : Int32) (t_requestLength : Int32) (t_faults : Int32) (t_withBinaries : Int32) (t_withAnalogs : Int32) (t_withEvents : Int32) (sz : Nat) (out : Int32) (h : fX0_hasEvents t_withEvents = some out) : Met l yX0_hasEvents wsX0_hasEvents rmX0_hasEvents (gPc G [.ref a_t] sz (wdX0_hasEvents G a_t a_t_row a_t_request t_length t_requestLength t_faults t_withBinaries t_withAnalogs t_withEvents)) (gQi G (va_A (wdX0_hasEvents G a_t a_t_row a_t_request t_length t_requestLength t_faults t_withBinaries t_withAnalogs t_withEvents) sz) out (wdX0_hasEvents G a_t a_t_row a_t_request t_length t_requestLength t_faults t_withBinaries t_withAnalogs t_withEvents)) 0 0 (va_A (wdX0_hasEvents G a_t a_t_row a_t_request t_length t_requestLength t_faults t_withBinaries t_withAnalogs t_withEvents) sz) := by
  refine Met.ofW (cc := cX0_hasEvents) (maxL := 1) (ret := (some .boolean)) (by decide) rfl ?_
  intro p e s m args below meth c s₁ B hml hv
  obtain ⟨rfl, hsz, hP, hK, hD0⟩ := hv
  have hts := atoms_spec (ws := wsX0_hasEvents) B.pre
  have hown : s.vm.findClass "OutStation$Answer" = some m.cls := findClass_of_methodNamed B.named
  subst hsz
  have hD := hD0.self (sz := s.heap.size)
  generalize hAe : va_A (wdX0_hasEvents G a_t a_t_row a_t_request t_length t_requestLength t_faults t_withBinaries t_withAnalogs t_withEvents) s.heap.size = A at hD ⊢
  have hA : ∀ q : Nat, s.heap.size ≤ q → A q := fun q h => by rw [← hAe]; exact Or.inr h
  have hS : va_S A s.heap s.heap [] := va_S.rf
  have hl := lv_entry ([.ref a_t]) (n := 1) (Nat.le_of_ble_eq_true rfl)
  rw [lg_entry_eq]
  generalize (lg_sl ([.ref a_t]) ++ List.replicate (1 - (lg_sl ([.ref a_t])).length) Slot.unset).toArray = ls at hl ⊢
  exact wX0_hasEvents_E ⟨B.exec, B.bytes, B.returns, hml, hown, hts, B.notSynchronized, hA, hK⟩  _ _ _ h hP hD hS hl
/-! ### OutStation$Answer.setNumber (I)V -/
abbrev wdX0_setNumber (G : GT) (a_t : Nat) (a_t_row : Nat) (a_t_request : Nat) (t_length : Int32) (t_requestLength : Int32) (t_faults : Int32) (t_withBinaries : Int32) (t_withAnalogs : Int32) (t_withEvents : Int32) (t_row : Nat → Int32) : va_W := [(a_t, .inr (0, [.ref a_t_row, .int t_length, .ref a_t_request, .int t_requestLength, .int t_faults, .int t_withBinaries, .int t_withAnalogs, .int t_withEvents])), (a_t_row, .inl (G.2.1, 250, .inl t_row))]
abbrev wsX0_setNumber : List Cond := .code yX0_setNumber cX0_setNumber 2 none :: BG
abbrev rmX0_setNumber : Room := { frames := 0, cells := 0, slots := 0, locals := 0 }
noncomputable def fX0_setNumber (x1 : Int32) (t_row : Nat → Int32) : Option ((Nat → Int32)) := some ((upd t_row (ix (0 : Int32)) ((192 : Int32) ||| x1)))
set_option maxHeartbeats 4000000 in
set_option maxRecDepth 100000 in
theorem wX0_setNumber_E {p : Program} {l : Launch} {e : Env} {s : State} {m : MethodId} {args : Array Value} {below : List Frame} {meth : Method} {c : Code} {G : GT} {A : Nat → Prop} (C : cxt p s m args meth c cX0_setNumber none 2 "OutStation$Answer" wsX0_setNumber G A) {a_t : Nat} {a_t_row : Nat} {a_t_request : Nat} {t_length : Int32} {t_requestLength : Int32} {t_faults : Int32} {t_withBinaries : Int32} {t_withAnalogs : Int32} {t_withEvents : Int32} {out : (Nat → Int32)} : ∀ (x1 : Int32) (t_row : Nat → Int32) (H : Heap) (locs : List Loc) (ls : Array Slot), fX0_setNumber x1 t_row = some out → va_P G.1 vwCl (wdX0_setNumber G a_t a_t_row a_t_request t_length t_requestLength t_faults t_withBinaries t_withAnalogs t_withEvents t_row) H → va_D A (wdX0_setNumber G a_t a_t_row a_t_request t_length t_requestLength t_faults t_withBinaries t_withAnalogs t_withEvents t_row) → va_S A s.heap H locs → lv_has ls 2 [(0, .ref a_t), (1, .int x1)] → W p l e rmX0_setNumber s m args below meth c H locs 0 0 (MQ below (gQv G A (wdX0_setNumber G a_t a_t_row a_t_request t_length t_requestLength t_faults t_withBinaries t_withAnalogs t_withEvents out)) args s 0 0 A) (F0 m 0 ls []) := by
  obtain ⟨hx, hb, hr, hml, hown, hts, hlocks, hA, hK⟩ := id C
  have hB : ∀ w ∈ BG, w.before args s = true := fun w h => hts w (List.mem_cons_of_mem _ h)
  intro x1 t_row H locs ls h hP hD hS hl
  unfold fX0_setNumber at h
  refine lv_aload_n hx hb dX0_setNumber_0 rfl (lv_at hl 0 rfl) ?_
  refine va_get (D := G.1) (ci := 0) (v := .ref a_t_row) (C := RX0) (T := TX0) (N := 8) hx hb hB iX0 hown hK.1 hP 0 rfl rfl 0 (by decide) (hB _ kw143) (fun _ h9 => h9) rfl dX0_setNumber_1 ?_
  refine lv_iconst (v := (0 : Int32)) hx hb dX0_setNumber_4 (by decide) ?_
  refine lv_sipush (v := (192 : Int32)) hx hb dX0_setNumber_5 (by decide) ?_
  refine lv_iload_n hx hb dX0_setNumber_8 rfl (lv_at hl 1 rfl) ?_
  refine lv_ior hx hb dX0_setNumber_9 ?_
  refine va_iast hx hb hK.1 hP hD hS 1 0 rfl rfl (vp_in_nI (n := 0) (N := 250) (by decide) (by decide)) dX0_setNumber_10 (fun H locs hP hD hS => ?_)
  have hP : va_P G.1 vwCl (wdX0_setNumber G a_t a_t_row a_t_request t_length t_requestLength t_faults t_withBinaries t_withAnalogs t_withEvents (upd t_row (ix (0 : Int32)) ((192 : Int32) ||| x1))) H := hP
  have hD : va_D A (wdX0_setNumber G a_t a_t_row a_t_request t_length t_requestLength t_faults t_withBinaries t_withAnalogs t_withEvents (upd t_row (ix (0 : Int32)) ((192 : Int32) ||| x1))) := hD
  obtain rfl := Option.some.inj h
  exact W.vret hx hb hr (fun t ht hW => ⟨⟨(), rfl, trivial, by rw [ht]; exact hP, hD⟩, hS.F ht⟩) hS.2.2 dX0_setNumber_11
set_option maxHeartbeats 4000000 in
set_option maxRecDepth 100000 in
theorem mX0_setNumber (l : Launch) (G : GT) (a_t : Nat) (a_t_row : Nat) (a_t_request : Nat) (t_length : Int32) (t_requestLength : Int32) (t_faults : Int32) (t_withBinaries : Int32) (t_withAnalogs : Int32) (t_withEvents : Int32) (x1 : Int32) (t_row : Nat → Int32) (sz : Nat) (out : (Nat → Int32)) (h : fX0_setNumber x1 t_row = some out) : Met l yX0_setNumber wsX0_setNumber rmX0_setNumber (gPc G [.ref a_t, .int x1] sz (wdX0_setNumber G a_t a_t_row a_t_request t_length t_requestLength t_faults t_withBinaries t_withAnalogs t_withEvents t_row)) (gQv G (va_A (wdX0_setNumber G a_t a_t_row a_t_request t_length t_requestLength t_faults t_withBinaries t_withAnalogs t_withEvents t_row) sz) (wdX0_setNumber G a_t a_t_row a_t_request t_length t_requestLength t_faults t_withBinaries t_withAnalogs t_withEvents out)) 0 0 (va_A (wdX0_setNumber G a_t a_t_row a_t_request t_length t_requestLength t_faults t_withBinaries t_withAnalogs t_withEvents t_row) sz) := by
  refine Met.ofW (cc := cX0_setNumber) (maxL := 2) (ret := none) (by decide) rfl ?_
  intro p e s m args below meth c s₁ B hml hv
  obtain ⟨rfl, hsz, hP, hK, hD0⟩ := hv
  have hts := atoms_spec (ws := wsX0_setNumber) B.pre
  have hown : s.vm.findClass "OutStation$Answer" = some m.cls := findClass_of_methodNamed B.named
  subst hsz
  have hD := hD0.self (sz := s.heap.size)
  generalize hAe : va_A (wdX0_setNumber G a_t a_t_row a_t_request t_length t_requestLength t_faults t_withBinaries t_withAnalogs t_withEvents t_row) s.heap.size = A at hD ⊢
  have hA : ∀ q : Nat, s.heap.size ≤ q → A q := fun q h => by rw [← hAe]; exact Or.inr h
  have hS : va_S A s.heap s.heap [] := va_S.rf
  have hl := lv_entry ([.ref a_t, .int x1]) (n := 2) (Nat.le_of_ble_eq_true rfl)
  rw [lg_entry_eq]
  generalize (lg_sl ([.ref a_t, .int x1]) ++ List.replicate (2 - (lg_sl ([.ref a_t, .int x1])).length) Slot.unset).toArray = ls at hl ⊢
  exact wX0_setNumber_E ⟨B.exec, B.bytes, B.returns, hml, hown, hts, B.notSynchronized, hA, hK⟩ x1 t_row _ _ _ h hP hD hS hl
/-! ### OutStation$Answer.begin ([II)V -/
abbrev wdX0_begin (G : GT) (a_t : Nat) (a_t_request : Nat) (a_p1 : Nat) (a_t_row : Nat) (N_p1 : Nat) (t_length : Int32) (t_requestLength : Int32) (t_faults : Int32) (t_withBinaries : Int32) (t_withAnalogs : Int32) (t_withEvents : Int32) (t_request : Nat → Int32) (p1 : Nat → Int32) : va_W := [(a_t, .inr (0, [.ref a_t_row, .int t_length, .ref a_t_request, .int t_requestLength, .int t_faults, .int t_withBinaries, .int t_withAnalogs, .int t_withEvents])), (a_t_request, .inl (G.2.1, 249, .inl t_request)), (a_p1, .inl (G.2.1, N_p1, .inl p1))]
abbrev wsX0_begin : List Cond := .code yX0_begin cX0_begin 3 none :: BG
abbrev rmX0_begin : Room := { frames := 1, cells := 0, slots := 0, locals := 30 }
noncomputable def fX0_begin (N_p1 : Nat) (p1 : Nat → Int32) (x2 : Int32) (t_length : Int32) (t_requestLength : Int32) (t_faults : Int32) (t_withBinaries : Int32) (t_withAnalogs : Int32) (t_withEvents : Int32) (t_request : Nat → Int32) : Option (Int32 × Int32 × Int32 × Int32 × Int32 × Int32 × (Nat → Int32)) := grd (¬ (0 : Int32) < 0 ∧ ¬ (0 : Int32) < 0 ∧ ¬ x2 < 0 ∧ ix (0 : Int32) + ix x2 ≤ N_p1 ∧ ix (0 : Int32) + ix x2 ≤ 249) (some ((5 : Int32), x2, (0 : Int32), (0 : Int32), (0 : Int32), (0 : Int32), (va_cpy p1 t_request (ix (0 : Int32)) (ix (0 : Int32)) (ix x2))))
set_option maxHeartbeats 4000000 in
set_option maxRecDepth 100000 in
theorem wX0_begin_E {p : Program} {l : Launch} {e : Env} {s : State} {m : MethodId} {args : Array Value} {below : List Frame} {meth : Method} {c : Code} {G : GT} {A : Nat → Prop} (C : cxt p s m args meth c cX0_begin none 3 "OutStation$Answer" wsX0_begin G A) {a_t : Nat} {a_t_request : Nat} {a_p1 : Nat} {a_t_row : Nat} {N_p1 : Nat} {p1 : Nat → Int32} {out : Int32 × Int32 × Int32 × Int32 × Int32 × Int32 × (Nat → Int32)} : ∀ (x2 : Int32) (t_length : Int32) (t_requestLength : Int32) (t_faults : Int32) (t_withBinaries : Int32) (t_withAnalogs : Int32) (t_withEvents : Int32) (t_request : Nat → Int32) (H : Heap) (locs : List Loc) (ls : Array Slot), fX0_begin N_p1 p1 x2 t_length t_requestLength t_faults t_withBinaries t_withAnalogs t_withEvents t_request = some out → va_P G.1 vwCl (wdX0_begin G a_t a_t_request a_p1 a_t_row N_p1 t_length t_requestLength t_faults t_withBinaries t_withAnalogs t_withEvents t_request p1) H → va_D A (wdX0_begin G a_t a_t_request a_p1 a_t_row N_p1 t_length t_requestLength t_faults t_withBinaries t_withAnalogs t_withEvents t_request p1) → va_S A s.heap H locs → lv_has ls 3 [(0, .ref a_t), (1, .ref a_p1), (2, .int x2)] → W p l e rmX0_begin s m args below meth c H locs 0 0 (MQ below (gQv G A (wdX0_begin G a_t a_t_request a_p1 a_t_row N_p1 out.1 out.2.1 out.2.2.1 out.2.2.2.1 out.2.2.2.2.1 out.2.2.2.2.2.1 out.2.2.2.2.2.2 p1)) args s 0 0 A) (F0 m 0 ls []) := by
  obtain ⟨hx, hb, hr, hml, hown, hts, hlocks, hA, hK⟩ := id C
  have hB : ∀ w ∈ BG, w.before args s = true := fun w h => hts w (List.mem_cons_of_mem _ h)
  intro x2 t_length t_requestLength t_faults t_withBinaries t_withAnalogs t_withEvents t_request H locs ls h hP hD hS hl
  unfold fX0_begin at h
  refine lv_aload_n hx hb dX0_begin_0 rfl (lv_at hl 1 rfl) ?_
  refine lv_iconst (v := (0 : Int32)) hx hb dX0_begin_1 (by decide) ?_
  refine lv_aload_n hx hb dX0_begin_2 rfl (lv_at hl 0 rfl) ?_
  refine va_get (D := G.1) (ci := 0) (v := .ref a_t_request) (C := RX0) (T := TX0) (N := 8) hx hb hB iX0 hown hK.1 hP 0 rfl rfl 2 (by decide) (hB _ kw145) (fun _ h9 => h9) rfl dX0_begin_3 ?_
  refine lv_iconst (v := (0 : Int32)) hx hb dX0_begin_6 (by decide) ?_
  refine lv_iload_n hx hb dX0_begin_7 rfl (lv_at hl 2 rfl) ?_
  obtain ⟨hg1, h⟩ := grd_some h
  refine va_copyi hx hb (hml.trans hl.1.symm) hown (hB _ kw591) (hB _ kw457) (hB _ kw456) (hB _ kw62) hK.1 hP hD hS 2 1 0 0 rfl rfl rfl rfl rfl hg1.1 hg1.2.1 hg1.2.2.1 hg1.2.2.2.1 hg1.2.2.2.2 (fun _ _ => rfl) (Nat.le_of_ble_eq_true rfl) (Nat.le_of_ble_eq_true rfl) dX0_begin_8 (fun H locs hP hD hS => ?_)
  have hP : va_P G.1 vwCl (wdX0_begin G a_t a_t_request a_p1 a_t_row N_p1 t_length t_requestLength t_faults t_withBinaries t_withAnalogs t_withEvents (va_cpy p1 t_request (ix (0 : Int32)) (ix (0 : Int32)) (ix x2)) p1) H := hP
  have hD : va_D A (wdX0_begin G a_t a_t_request a_p1 a_t_row N_p1 t_length t_requestLength t_faults t_withBinaries t_withAnalogs t_withEvents (va_cpy p1 t_request (ix (0 : Int32)) (ix (0 : Int32)) (ix x2)) p1) := hD
  refine lv_aload_n hx hb dX0_begin_11 rfl (lv_at hl 0 rfl) ?_
  refine lv_iload_n hx hb dX0_begin_12 rfl (lv_at hl 2 rfl) ?_
  refine va_put (D := G.1) (ci := 0) (v := .int x2) (ty := .int) (C := RX0) (T := TX0) (N := 8) hx hb hB iX0 tyX0 tyX0_ok nmX0 hown hK.1 hP hD hS 0 rfl rfl 3 (by decide) (hB _ kw146) (fun _ h9 => h9) rfl (by decide +kernel) rfl rfl (Nat.le_of_ble_eq_true rfl) dX0_begin_13 (fun H locs hP hD hS => ?_)
  have hP : va_P G.1 vwCl (wdX0_begin G a_t a_t_request a_p1 a_t_row N_p1 t_length x2 t_faults t_withBinaries t_withAnalogs t_withEvents (va_cpy p1 t_request (ix (0 : Int32)) (ix (0 : Int32)) (ix x2)) p1) H := hP
  have hD : va_D A (wdX0_begin G a_t a_t_request a_p1 a_t_row N_p1 t_length x2 t_faults t_withBinaries t_withAnalogs t_withEvents (va_cpy p1 t_request (ix (0 : Int32)) (ix (0 : Int32)) (ix x2)) p1) := hD
  refine lv_aload_n hx hb dX0_begin_16 rfl (lv_at hl 0 rfl) ?_
  refine lv_iconst (v := (5 : Int32)) hx hb dX0_begin_17 (by decide) ?_
  refine va_put (D := G.1) (ci := 0) (v := .int (5 : Int32)) (ty := .int) (C := RX0) (T := TX0) (N := 8) hx hb hB iX0 tyX0 tyX0_ok nmX0 hown hK.1 hP hD hS 0 rfl rfl 1 (by decide) (hB _ kw144) (fun _ h9 => h9) rfl (by decide +kernel) rfl rfl (Nat.le_of_ble_eq_true rfl) dX0_begin_18 (fun H locs hP hD hS => ?_)
  have hP : va_P G.1 vwCl (wdX0_begin G a_t a_t_request a_p1 a_t_row N_p1 (5 : Int32) x2 t_faults t_withBinaries t_withAnalogs t_withEvents (va_cpy p1 t_request (ix (0 : Int32)) (ix (0 : Int32)) (ix x2)) p1) H := hP
  have hD : va_D A (wdX0_begin G a_t a_t_request a_p1 a_t_row N_p1 (5 : Int32) x2 t_faults t_withBinaries t_withAnalogs t_withEvents (va_cpy p1 t_request (ix (0 : Int32)) (ix (0 : Int32)) (ix x2)) p1) := hD
  refine lv_aload_n hx hb dX0_begin_21 rfl (lv_at hl 0 rfl) ?_
  refine lv_iconst (v := (0 : Int32)) hx hb dX0_begin_22 (by decide) ?_
  refine va_put (D := G.1) (ci := 0) (v := .int (0 : Int32)) (ty := .int) (C := RX0) (T := TX0) (N := 8) hx hb hB iX0 tyX0 tyX0_ok nmX0 hown hK.1 hP hD hS 0 rfl rfl 4 (by decide) (hB _ kw147) (fun _ h9 => h9) rfl (by decide +kernel) rfl rfl (Nat.le_of_ble_eq_true rfl) dX0_begin_23 (fun H locs hP hD hS => ?_)
  have hP : va_P G.1 vwCl (wdX0_begin G a_t a_t_request a_p1 a_t_row N_p1 (5 : Int32) x2 (0 : Int32) t_withBinaries t_withAnalogs t_withEvents (va_cpy p1 t_request (ix (0 : Int32)) (ix (0 : Int32)) (ix x2)) p1) H := hP
  have hD : va_D A (wdX0_begin G a_t a_t_request a_p1 a_t_row N_p1 (5 : Int32) x2 (0 : Int32) t_withBinaries t_withAnalogs t_withEvents (va_cpy p1 t_request (ix (0 : Int32)) (ix (0 : Int32)) (ix x2)) p1) := hD
  refine lv_aload_n hx hb dX0_begin_26 rfl (lv_at hl 0 rfl) ?_
  refine lv_iconst (v := (0 : Int32)) hx hb dX0_begin_27 (by decide) ?_
  refine va_put (D := G.1) (ci := 0) (v := .int (0 : Int32)) (ty := .boolean) (C := RX0) (T := TX0) (N := 8) hx hb hB iX0 tyX0 tyX0_ok nmX0 hown hK.1 hP hD hS 0 rfl rfl 5 (by decide) (hB _ kw148) (fun _ h9 => h9) rfl (by decide +kernel) (isB_nar (Or.inl rfl)) (isB_fit (Or.inl rfl)) (Nat.le_of_ble_eq_true rfl) dX0_begin_28 (fun H locs hP hD hS => ?_)
  have hP : va_P G.1 vwCl (wdX0_begin G a_t a_t_request a_p1 a_t_row N_p1 (5 : Int32) x2 (0 : Int32) (0 : Int32) t_withAnalogs t_withEvents (va_cpy p1 t_request (ix (0 : Int32)) (ix (0 : Int32)) (ix x2)) p1) H := hP
  have hD : va_D A (wdX0_begin G a_t a_t_request a_p1 a_t_row N_p1 (5 : Int32) x2 (0 : Int32) (0 : Int32) t_withAnalogs t_withEvents (va_cpy p1 t_request (ix (0 : Int32)) (ix (0 : Int32)) (ix x2)) p1) := hD
  refine lv_aload_n hx hb dX0_begin_31 rfl (lv_at hl 0 rfl) ?_
  refine lv_iconst (v := (0 : Int32)) hx hb dX0_begin_32 (by decide) ?_
  refine va_put (D := G.1) (ci := 0) (v := .int (0 : Int32)) (ty := .boolean) (C := RX0) (T := TX0) (N := 8) hx hb hB iX0 tyX0 tyX0_ok nmX0 hown hK.1 hP hD hS 0 rfl rfl 6 (by decide) (hB _ kw149) (fun _ h9 => h9) rfl (by decide +kernel) (isB_nar (Or.inl rfl)) (isB_fit (Or.inl rfl)) (Nat.le_of_ble_eq_true rfl) dX0_begin_33 (fun H locs hP hD hS => ?_)
  have hP : va_P G.1 vwCl (wdX0_begin G a_t a_t_request a_p1 a_t_row N_p1 (5 : Int32) x2 (0 : Int32) (0 : Int32) (0 : Int32) t_withEvents (va_cpy p1 t_request (ix (0 : Int32)) (ix (0 : Int32)) (ix x2)) p1) H := hP
  have hD : va_D A (wdX0_begin G a_t a_t_request a_p1 a_t_row N_p1 (5 : Int32) x2 (0 : Int32) (0 : Int32) (0 : Int32) t_withEvents (va_cpy p1 t_request (ix (0 : Int32)) (ix (0 : Int32)) (ix x2)) p1) := hD
  refine lv_aload_n hx hb dX0_begin_36 rfl (lv_at hl 0 rfl) ?_
  refine lv_iconst (v := (0 : Int32)) hx hb dX0_begin_37 (by decide) ?_
  refine va_put (D := G.1) (ci := 0) (v := .int (0 : Int32)) (ty := .boolean) (C := RX0) (T := TX0) (N := 8) hx hb hB iX0 tyX0 tyX0_ok nmX0 hown hK.1 hP hD hS 0 rfl rfl 7 (by decide) (hB _ kw150) (fun _ h9 => h9) rfl (by decide +kernel) (isB_nar (Or.inl rfl)) (isB_fit (Or.inl rfl)) (Nat.le_of_ble_eq_true rfl) dX0_begin_38 (fun H locs hP hD hS => ?_)
  have hP : va_P G.1 vwCl (wdX0_begin G a_t a_t_request a_p1 a_t_row N_p1 (5 : Int32) x2 (0 : Int32) (0 : Int32) (0 : Int32) (0 : Int32) (va_cpy p1 t_request (ix (0 : Int32)) (ix (0 : Int32)) (ix x2)) p1) H := hP
  have hD : va_D A (wdX0_begin G a_t a_t_request a_p1 a_t_row N_p1 (5 : Int32) x2 (0 : Int32) (0 : Int32) (0 : Int32) (0 : Int32) (va_cpy p1 t_request (ix (0 : Int32)) (ix (0 : Int32)) (ix x2)) p1) := hD
  obtain rfl := Option.some.inj h
  exact W.vret hx hb hr (fun t ht hW => ⟨⟨(), rfl, trivial, by rw [ht]; exact hP, hD⟩, hS.F ht⟩) hS.2.2 dX0_begin_41
set_option maxHeartbeats 4000000 in
set_option maxRecDepth 100000 in
theorem mX0_begin (l : Launch) (G : GT) (a_t : Nat) (a_t_request : Nat) (a_p1 : Nat) (a_t_row : Nat) (N_p1 : Nat) (p1 : Nat → Int32) (x2 : Int32) (t_length : Int32) (t_requestLength : Int32) (t_faults : Int32) (t_withBinaries : Int32) (t_withAnalogs : Int32) (t_withEvents : Int32) (t_request : Nat → Int32) (sz : Nat) (out : Int32 × Int32 × Int32 × Int32 × Int32 × Int32 × (Nat → Int32)) (h : fX0_begin N_p1 p1 x2 t_length t_requestLength t_faults t_withBinaries t_withAnalogs t_withEvents t_request = some out) : Met l yX0_begin wsX0_begin rmX0_begin (gPc G [.ref a_t, .ref a_p1, .int x2] sz (wdX0_begin G a_t a_t_request a_p1 a_t_row N_p1 t_length t_requestLength t_faults t_withBinaries t_withAnalogs t_withEvents t_request p1)) (gQv G (va_A (wdX0_begin G a_t a_t_request a_p1 a_t_row N_p1 t_length t_requestLength t_faults t_withBinaries t_withAnalogs t_withEvents t_request p1) sz) (wdX0_begin G a_t a_t_request a_p1 a_t_row N_p1 out.1 out.2.1 out.2.2.1 out.2.2.2.1 out.2.2.2.2.1 out.2.2.2.2.2.1 out.2.2.2.2.2.2 p1)) 0 0 (va_A (wdX0_begin G a_t a_t_request a_p1 a_t_row N_p1 t_length t_requestLength t_faults t_withBinaries t_withAnalogs t_withEvents t_request p1) sz) := by
  refine Met.ofW (cc := cX0_begin) (maxL := 3) (ret := none) (by decide) rfl ?_
  intro p e s m args below meth c s₁ B hml hv
  obtain ⟨rfl, hsz, hP, hK, hD0⟩ := hv
  have hts := atoms_spec (ws := wsX0_begin) B.pre
  have hown : s.vm.findClass "OutStation$Answer" = some m.cls := findClass_of_methodNamed B.named
  subst hsz
  have hD := hD0.self (sz := s.heap.size)
  generalize hAe : va_A (wdX0_begin G a_t a_t_request a_p1 a_t_row N_p1 t_length t_requestLength t_faults t_withBinaries t_withAnalogs t_withEvents t_request p1) s.heap.size = A at hD ⊢
  have hA : ∀ q : Nat, s.heap.size ≤ q → A q := fun q h => by rw [← hAe]; exact Or.inr h
  have hS : va_S A s.heap s.heap [] := va_S.rf
  have hl := lv_entry ([.ref a_t, .ref a_p1, .int x2]) (n := 3) (Nat.le_of_ble_eq_true rfl)
  rw [lg_entry_eq]
  generalize (lg_sl ([.ref a_t, .ref a_p1, .int x2]) ++ List.replicate (3 - (lg_sl ([.ref a_t, .ref a_p1, .int x2])).length) Slot.unset).toArray = ls at hl ⊢
  exact wX0_begin_E ⟨B.exec, B.bytes, B.returns, hml, hown, hts, B.notSynchronized, hA, hK⟩ x2 t_length t_requestLength t_faults t_withBinaries t_withAnalogs t_withEvents t_request _ _ _ h hP hD hS hl
/-! ### OutStation$Answer.addFault (I)V -/
abbrev wdX0_addFault (G : GT) (a_t : Nat) (a_t_row : Nat) (a_t_request : Nat) (t_length : Int32) (t_requestLength : Int32) (t_faults : Int32) (t_withBinaries : Int32) (t_withAnalogs : Int32) (t_withEvents : Int32) : va_W := [(a_t, .inr (0, [.ref a_t_row, .int t_length, .ref a_t_request, .int t_requestLength, .int t_faults, .int t_withBinaries, .int t_withAnalogs, .int t_withEvents]))]
abbrev wsX0_addFault : List Cond := .code yX0_addFault cX0_addFault 2 none :: BG
abbrev rmX0_addFault : Room := { frames := 0, cells := 0, slots := 0, locals := 0 }
noncomputable def fX0_addFault (x1 : Int32) (t_faults : Int32) : Option (Int32) := some ((t_faults ||| x1))
set_option maxHeartbeats 4000000 in
set_option maxRecDepth 100000 in
theorem wX0_addFault_E {p : Program} {l : Launch} {e : Env} {s : State} {m : MethodId} {args : Array Value} {below : List Frame} {meth : Method} {c : Code} {G : GT} {A : Nat → Prop} (C : cxt p s m args meth c cX0_addFault none 2 "OutStation$Answer" wsX0_addFault G A) {a_t : Nat} {a_t_row : Nat} {a_t_request : Nat} {t_length : Int32} {t_requestLength : Int32} {t_withBinaries : Int32} {t_withAnalogs : Int32} {t_withEvents : Int32} {out : Int32} : ∀ (x1 : Int32) (t_faults : Int32) (H : Heap) (locs : List Loc) (ls : Array Slot), fX0_addFault x1 t_faults = some out → va_P G.1 vwCl (wdX0_addFault G a_t a_t_row a_t_request t_length t_requestLength t_faults t_withBinaries t_withAnalogs t_withEvents) H → va_D A (wdX0_addFault G a_t a_t_row a_t_request t_length t_requestLength t_faults t_withBinaries t_withAnalogs t_withEvents) → va_S A s.heap H locs → lv_has ls 2 [(0, .ref a_t), (1, .int x1)] → W p l e rmX0_addFault s m args below meth c H locs 0 0 (MQ below (gQv G A (wdX0_addFault G a_t a_t_row a_t_request t_length t_requestLength out t_withBinaries t_withAnalogs t_withEvents)) args s 0 0 A) (F0 m 0 ls []) := by
  obtain ⟨hx, hb, hr, hml, hown, hts, hlocks, hA, hK⟩ := id C
  have hB : ∀ w ∈ BG, w.before args s = true := fun w h => hts w (List.mem_cons_of_mem _ h)
  intro x1 t_faults H locs ls h hP hD hS hl
  unfold fX0_addFault at h
  refine lv_aload_n hx hb dX0_addFault_0 rfl (lv_at hl 0 rfl) ?_
  refine lv_dup hx hb dX0_addFault_1 rfl ?_
  refine va_get (D := G.1) (ci := 0) (v := .int t_faults) (C := RX0) (T := TX0) (N := 8) hx hb hB iX0 hown hK.1 hP 0 rfl rfl 4 (by decide) (hB _ kw147) (fun _ h9 => h9) rfl dX0_addFault_2 ?_
  refine lv_iload_n hx hb dX0_addFault_5 rfl (lv_at hl 1 rfl) ?_
  refine lv_ior hx hb dX0_addFault_6 ?_
  refine va_put (D := G.1) (ci := 0) (v := .int (t_faults ||| x1)) (ty := .int) (C := RX0) (T := TX0) (N := 8) hx hb hB iX0 tyX0 tyX0_ok nmX0 hown hK.1 hP hD hS 0 rfl rfl 4 (by decide) (hB _ kw147) (fun _ h9 => h9) rfl (by decide +kernel) rfl rfl (Nat.le_of_ble_eq_true rfl) dX0_addFault_7 (fun H locs hP hD hS => ?_)
  have hP : va_P G.1 vwCl (wdX0_addFault G a_t a_t_row a_t_request t_length t_requestLength (t_faults ||| x1) t_withBinaries t_withAnalogs t_withEvents) H := hP
  have hD : va_D A (wdX0_addFault G a_t a_t_row a_t_request t_length t_requestLength (t_faults ||| x1) t_withBinaries t_withAnalogs t_withEvents) := hD
  obtain rfl := Option.some.inj h
  exact W.vret hx hb hr (fun t ht hW => ⟨⟨(), rfl, trivial, by rw [ht]; exact hP, hD⟩, hS.F ht⟩) hS.2.2 dX0_addFault_10
set_option maxHeartbeats 4000000 in
set_option maxRecDepth 100000 in
theorem mX0_addFault (l : Launch) (G : GT) (a_t : Nat) (a_t_row : Nat) (a_t_request : Nat) (t_length : Int32) (t_requestLength : Int32) (t_withBinaries : Int32) (t_withAnalogs : Int32) (t_withEvents : Int32) (x1 : Int32) (t_faults : Int32) (sz : Nat) (out : Int32) (h : fX0_addFault x1 t_faults = some out) : Met l yX0_addFault wsX0_addFault rmX0_addFault (gPc G [.ref a_t, .int x1] sz (wdX0_addFault G a_t a_t_row a_t_request t_length t_requestLength t_faults t_withBinaries t_withAnalogs t_withEvents)) (gQv G (va_A (wdX0_addFault G a_t a_t_row a_t_request t_length t_requestLength t_faults t_withBinaries t_withAnalogs t_withEvents) sz) (wdX0_addFault G a_t a_t_row a_t_request t_length t_requestLength out t_withBinaries t_withAnalogs t_withEvents)) 0 0 (va_A (wdX0_addFault G a_t a_t_row a_t_request t_length t_requestLength t_faults t_withBinaries t_withAnalogs t_withEvents) sz) := by
  refine Met.ofW (cc := cX0_addFault) (maxL := 2) (ret := none) (by decide) rfl ?_
  intro p e s m args below meth c s₁ B hml hv
  obtain ⟨rfl, hsz, hP, hK, hD0⟩ := hv
  have hts := atoms_spec (ws := wsX0_addFault) B.pre
  have hown : s.vm.findClass "OutStation$Answer" = some m.cls := findClass_of_methodNamed B.named
  subst hsz
  have hD := hD0.self (sz := s.heap.size)
  generalize hAe : va_A (wdX0_addFault G a_t a_t_row a_t_request t_length t_requestLength t_faults t_withBinaries t_withAnalogs t_withEvents) s.heap.size = A at hD ⊢
  have hA : ∀ q : Nat, s.heap.size ≤ q → A q := fun q h => by rw [← hAe]; exact Or.inr h
  have hS : va_S A s.heap s.heap [] := va_S.rf
  have hl := lv_entry ([.ref a_t, .int x1]) (n := 2) (Nat.le_of_ble_eq_true rfl)
  rw [lg_entry_eq]
  generalize (lg_sl ([.ref a_t, .int x1]) ++ List.replicate (2 - (lg_sl ([.ref a_t, .int x1])).length) Slot.unset).toArray = ls at hl ⊢
  exact wX0_addFault_E ⟨B.exec, B.bytes, B.returns, hml, hown, hts, B.notSynchronized, hA, hK⟩ x1 t_faults _ _ _ h hP hD hS hl
/-! ### OutStation$Answer.finish (IIZ)V -/
abbrev wdX0_finish (G : GT) (a_t : Nat) (a_t_row : Nat) (a_t_request : Nat) (t_length : Int32) (t_requestLength : Int32) (t_faults : Int32) (t_withBinaries : Int32) (t_withAnalogs : Int32) (t_withEvents : Int32) (t_row : Nat → Int32) : va_W := [(a_t, .inr (0, [.ref a_t_row, .int t_length, .ref a_t_request, .int t_requestLength, .int t_faults, .int t_withBinaries, .int t_withAnalogs, .int t_withEvents])), (a_t_row, .inl (G.2.1, 250, .inl t_row))]
abbrev wsX0_finish : List Cond := .code yX0_finish cX0_finish 4 none :: BG
abbrev rmX0_finish : Room := { frames := 0, cells := 0, slots := 0, locals := 0 }
noncomputable def fX0_finish_L60 (t_faults : Int32) (t_withEvents : Int32) (s0 : Int32) (s1 : Int32) (s2 : Int32) (t_row : Nat → Int32) : Option ((Nat → Int32)) := grd (vp_in s2 250) (some ((upd t_row (ix s2) (s1 ||| s0))))
set_option maxHeartbeats 4000000 in
set_option maxRecDepth 100000 in
theorem wX0_finish_L60 {p : Program} {l : Launch} {e : Env} {s : State} {m : MethodId} {args : Array Value} {below : List Frame} {meth : Method} {c : Code} {G : GT} {A : Nat → Prop} (C : cxt p s m args meth c cX0_finish none 4 "OutStation$Answer" wsX0_finish G A) {a_t : Nat} {a_t_row : Nat} {a_t_request : Nat} {t_length : Int32} {t_requestLength : Int32} {t_faults : Int32} {t_withBinaries : Int32} {t_withAnalogs : Int32} {t_withEvents : Int32} {out : (Nat → Int32)} : ∀ (s0 : Int32) (s1 : Int32) (s2 : Int32) (t_row : Nat → Int32) (H : Heap) (locs : List Loc) (ls : Array Slot), fX0_finish_L60 t_faults t_withEvents s0 s1 s2 t_row = some out → va_P G.1 vwCl (wdX0_finish G a_t a_t_row a_t_request t_length t_requestLength t_faults t_withBinaries t_withAnalogs t_withEvents t_row) H → va_D A (wdX0_finish G a_t a_t_row a_t_request t_length t_requestLength t_faults t_withBinaries t_withAnalogs t_withEvents t_row) → va_S A s.heap H locs → lv_has ls 4 [] → W p l e rmX0_finish s m args below meth c H locs 0 0 (MQ below (gQv G A (wdX0_finish G a_t a_t_row a_t_request t_length t_requestLength t_faults t_withBinaries t_withAnalogs t_withEvents out)) args s 0 0 A) (F0 m 60 ls [.int s0, .int s1, .int s2, .ref a_t_row]) := by
  obtain ⟨hx, hb, hr, hml, hown, hts, hlocks, hA, hK⟩ := id C
  have hB : ∀ w ∈ BG, w.before args s = true := fun w h => hts w (List.mem_cons_of_mem _ h)
  intro s0 s1 s2 t_row H locs ls h hP hD hS hl
  unfold fX0_finish_L60 at h
  refine lv_ior hx hb dX0_finish_60 ?_
  obtain ⟨hg1, h⟩ := grd_some h
  refine va_iast hx hb hK.1 hP hD hS 1 0 rfl rfl hg1 dX0_finish_61 (fun H locs hP hD hS => ?_)
  have hP : va_P G.1 vwCl (wdX0_finish G a_t a_t_row a_t_request t_length t_requestLength t_faults t_withBinaries t_withAnalogs t_withEvents (upd t_row (ix s2) (s1 ||| s0))) H := hP
  have hD : va_D A (wdX0_finish G a_t a_t_row a_t_request t_length t_requestLength t_faults t_withBinaries t_withAnalogs t_withEvents (upd t_row (ix s2) (s1 ||| s0))) := hD
  obtain rfl := Option.some.inj h
  exact W.vret hx hb hr (fun t ht hW => ⟨⟨(), rfl, trivial, by rw [ht]; exact hP, hD⟩, hS.F ht⟩) hS.2.2 dX0_finish_62
noncomputable def fX0_finish_L23 (t_faults : Int32) (t_withEvents : Int32) (x2 : Int32) (x3 : Int32) (s0 : Int32) (s1 : Int32) (s2 : Int32) (t_row : Nat → Int32) : Option ((Nat → Int32)) := grd (vp_in s2 250) (brc (x3 = 0) (fX0_finish_L60 t_faults t_withEvents (0 : Int32) t_faults (4 : Int32) (upd (upd (upd t_row (ix s2) (s1 ||| s0)) (ix (2 : Int32)) (129 : Int32)) (ix (3 : Int32)) x2)) (fX0_finish_L60 t_faults t_withEvents (8 : Int32) t_faults (4 : Int32) (upd (upd (upd t_row (ix s2) (s1 ||| s0)) (ix (2 : Int32)) (129 : Int32)) (ix (3 : Int32)) x2)))
set_option maxHeartbeats 4000000 in
set_option maxRecDepth 100000 in
theorem wX0_finish_L23 {p : Program} {l : Launch} {e : Env} {s : State} {m : MethodId} {args : Array Value} {below : List Frame} {meth : Method} {c : Code} {G : GT} {A : Nat → Prop} (C : cxt p s m args meth c cX0_finish none 4 "OutStation$Answer" wsX0_finish G A) {a_t : Nat} {a_t_row : Nat} {a_t_request : Nat} {t_length : Int32} {t_requestLength : Int32} {t_faults : Int32} {t_withBinaries : Int32} {t_withAnalogs : Int32} {t_withEvents : Int32} {out : (Nat → Int32)} : ∀ (x2 : Int32) (x3 : Int32) (s0 : Int32) (s1 : Int32) (s2 : Int32) (t_row : Nat → Int32) (H : Heap) (locs : List Loc) (ls : Array Slot), fX0_finish_L23 t_faults t_withEvents x2 x3 s0 s1 s2 t_row = some out → va_P G.1 vwCl (wdX0_finish G a_t a_t_row a_t_request t_length t_requestLength t_faults t_withBinaries t_withAnalogs t_withEvents t_row) H → va_D A (wdX0_finish G a_t a_t_row a_t_request t_length t_requestLength t_faults t_withBinaries t_withAnalogs t_withEvents t_row) → va_S A s.heap H locs → lv_has ls 4 [(0, .ref a_t), (2, .int x2), (3, .int x3)] → W p l e rmX0_finish s m args below meth c H locs 0 0 (MQ below (gQv G A (wdX0_finish G a_t a_t_row a_t_request t_length t_requestLength t_faults t_withBinaries t_withAnalogs t_withEvents out)) args s 0 0 A) (F0 m 23 ls [.int s0, .int s1, .int s2, .ref a_t_row]) := by
  obtain ⟨hx, hb, hr, hml, hown, hts, hlocks, hA, hK⟩ := id C
  have hB : ∀ w ∈ BG, w.before args s = true := fun w h => hts w (List.mem_cons_of_mem _ h)
  intro x2 x3 s0 s1 s2 t_row H locs ls h hP hD hS hl
  unfold fX0_finish_L23 at h
  refine lv_ior hx hb dX0_finish_23 ?_
  obtain ⟨hg1, h⟩ := grd_some h
  refine va_iast hx hb hK.1 hP hD hS 1 0 rfl rfl hg1 dX0_finish_24 (fun H locs hP hD hS => ?_)
  have hP : va_P G.1 vwCl (wdX0_finish G a_t a_t_row a_t_request t_length t_requestLength t_faults t_withBinaries t_withAnalogs t_withEvents (upd t_row (ix s2) (s1 ||| s0))) H := hP
  have hD : va_D A (wdX0_finish G a_t a_t_row a_t_request t_length t_requestLength t_faults t_withBinaries t_withAnalogs t_withEvents (upd t_row (ix s2) (s1 ||| s0))) := hD
  refine lv_aload_n hx hb dX0_finish_25 rfl (lv_at hl 0 rfl) ?_
  refine va_get (D := G.1) (ci := 0) (v := .ref a_t_row) (C := RX0) (T := TX0) (N := 8) hx hb hB iX0 hown hK.1 hP 0 rfl rfl 0 (by decide) (hB _ kw143) (fun _ h9 => h9) rfl dX0_finish_26 ?_
  refine lv_iconst (v := (2 : Int32)) hx hb dX0_finish_29 (by decide) ?_
  refine lv_sipush (v := (129 : Int32)) hx hb dX0_finish_30 (by decide) ?_
  refine va_iast hx hb hK.1 hP hD hS 1 0 rfl rfl (vp_in_nI (n := 2) (N := 250) (by decide) (by decide)) dX0_finish_33 (fun H locs hP hD hS => ?_)
  have hP : va_P G.1 vwCl (wdX0_finish G a_t a_t_row a_t_request t_length t_requestLength t_faults t_withBinaries t_withAnalogs t_withEvents (upd (upd t_row (ix s2) (s1 ||| s0)) (ix (2 : Int32)) (129 : Int32))) H := hP
  have hD : va_D A (wdX0_finish G a_t a_t_row a_t_request t_length t_requestLength t_faults t_withBinaries t_withAnalogs t_withEvents (upd (upd t_row (ix s2) (s1 ||| s0)) (ix (2 : Int32)) (129 : Int32))) := hD
  refine lv_aload_n hx hb dX0_finish_34 rfl (lv_at hl 0 rfl) ?_
  refine va_get (D := G.1) (ci := 0) (v := .ref a_t_row) (C := RX0) (T := TX0) (N := 8) hx hb hB iX0 hown hK.1 hP 0 rfl rfl 0 (by decide) (hB _ kw143) (fun _ h9 => h9) rfl dX0_finish_35 ?_
  refine lv_iconst (v := (3 : Int32)) hx hb dX0_finish_38 (by decide) ?_
  refine lv_iload_n hx hb dX0_finish_39 rfl (lv_at hl 1 rfl) ?_
  refine va_iast hx hb hK.1 hP hD hS 1 0 rfl rfl (vp_in_nI (n := 3) (N := 250) (by decide) (by decide)) dX0_finish_40 (fun H locs hP hD hS => ?_)
  have hP : va_P G.1 vwCl (wdX0_finish G a_t a_t_row a_t_request t_length t_requestLength t_faults t_withBinaries t_withAnalogs t_withEvents (upd (upd (upd t_row (ix s2) (s1 ||| s0)) (ix (2 : Int32)) (129 : Int32)) (ix (3 : Int32)) x2)) H := hP
  have hD : va_D A (wdX0_finish G a_t a_t_row a_t_request t_length t_requestLength t_faults t_withBinaries t_withAnalogs t_withEvents (upd (upd (upd t_row (ix s2) (s1 ||| s0)) (ix (2 : Int32)) (129 : Int32)) (ix (3 : Int32)) x2)) := hD
  refine lv_aload_n hx hb dX0_finish_41 rfl (lv_at hl 0 rfl) ?_
  refine va_get (D := G.1) (ci := 0) (v := .ref a_t_row) (C := RX0) (T := TX0) (N := 8) hx hb hB iX0 hown hK.1 hP 0 rfl rfl 0 (by decide) (hB _ kw143) (fun _ h9 => h9) rfl dX0_finish_42 ?_
  refine lv_iconst (v := (4 : Int32)) hx hb dX0_finish_45 (by decide) ?_
  refine lv_aload_n hx hb dX0_finish_46 rfl (lv_at hl 0 rfl) ?_
  refine va_get (D := G.1) (ci := 0) (v := .int t_faults) (C := RX0) (T := TX0) (N := 8) hx hb hB iX0 hown hK.1 hP 0 rfl rfl 4 (by decide) (hB _ kw147) (fun _ h9 => h9) rfl dX0_finish_47 ?_
  refine lv_iload_n hx hb dX0_finish_50 rfl (lv_at hl 2 rfl) ?_
  refine lv_if_eq (tgt := 59) hx hb dX0_finish_51 (by decide) (fun hc51 => ?_) (fun hc51 => ?_)
  · have h := brc_tt h hc51
    refine lv_iconst (v := (0 : Int32)) hx hb dX0_finish_59 (by decide) ?_
    exact wX0_finish_L60 C (0 : Int32) t_faults (4 : Int32) (upd (upd (upd t_row (ix s2) (s1 ||| s0)) (ix (2 : Int32)) (129 : Int32)) (ix (3 : Int32)) x2) _ _ _ h hP hD hS (lv_sub hl [] rfl)
  · have h := brc_ff h hc51
    refine lv_bipush (v := (8 : Int32)) hx hb dX0_finish_54 (by decide) ?_
    refine lv_goto (tgt := 60) hx hb dX0_finish_56 (by decide) ?_
    exact wX0_finish_L60 C (8 : Int32) t_faults (4 : Int32) (upd (upd (upd t_row (ix s2) (s1 ||| s0)) (ix (2 : Int32)) (129 : Int32)) (ix (3 : Int32)) x2) _ _ _ h hP hD hS (lv_sub hl [] rfl)
noncomputable def fX0_finish (t_faults : Int32) (t_withEvents : Int32) (x1 : Int32) (x2 : Int32) (x3 : Int32) (t_row : Nat → Int32) : Option ((Nat → Int32)) := brc (t_withEvents = 0) (fX0_finish_L23 t_faults t_withEvents x2 x3 (0 : Int32) ((192 : Int32) ||| x1) (1 : Int32) t_row) (fX0_finish_L23 t_faults t_withEvents x2 x3 (32 : Int32) ((192 : Int32) ||| x1) (1 : Int32) t_row)
set_option maxHeartbeats 4000000 in
set_option maxRecDepth 100000 in
theorem wX0_finish_E {p : Program} {l : Launch} {e : Env} {s : State} {m : MethodId} {args : Array Value} {below : List Frame} {meth : Method} {c : Code} {G : GT} {A : Nat → Prop} (C : cxt p s m args meth c cX0_finish none 4 "OutStation$Answer" wsX0_finish G A) {a_t : Nat} {a_t_row : Nat} {a_t_request : Nat} {t_length : Int32} {t_requestLength : Int32} {t_faults : Int32} {t_withBinaries : Int32} {t_withAnalogs : Int32} {t_withEvents : Int32} {out : (Nat → Int32)} : ∀ (x1 : Int32) (x2 : Int32) (x3 : Int32) (t_row : Nat → Int32) (H : Heap) (locs : List Loc) (ls : Array Slot), fX0_finish t_faults t_withEvents x1 x2 x3 t_row = some out → va_P G.1 vwCl (wdX0_finish G a_t a_t_row a_t_request t_length t_requestLength t_faults t_withBinaries t_withAnalogs t_withEvents t_row) H → va_D A (wdX0_finish G a_t a_t_row a_t_request t_length t_requestLength t_faults t_withBinaries t_withAnalogs t_withEvents t_row) → va_S A s.heap H locs → lv_has ls 4 [(0, .ref a_t), (1, .int x1), (2, .int x2), (3, .int x3)] → W p l e rmX0_finish s m args below meth c H locs 0 0 (MQ below (gQv G A (wdX0_finish G a_t a_t_row a_t_request t_length t_requestLength t_faults t_withBinaries t_withAnalogs t_withEvents out)) args s 0 0 A) (F0 m 0 ls []) := by
  obtain ⟨hx, hb, hr, hml, hown, hts, hlocks, hA, hK⟩ := id C
  have hB : ∀ w ∈ BG, w.before args s = true := fun w h => hts w (List.mem_cons_of_mem _ h)
  intro x1 x2 x3 t_row H locs ls h hP hD hS hl
  unfold fX0_finish at h
  refine lv_aload_n hx hb dX0_finish_0 rfl (lv_at hl 0 rfl) ?_
  refine va_get (D := G.1) (ci := 0) (v := .ref a_t_row) (C := RX0) (T := TX0) (N := 8) hx hb hB iX0 hown hK.1 hP 0 rfl rfl 0 (by decide) (hB _ kw143) (fun _ h9 => h9) rfl dX0_finish_1 ?_
  refine lv_iconst (v := (1 : Int32)) hx hb dX0_finish_4 (by decide) ?_
  refine lv_sipush (v := (192 : Int32)) hx hb dX0_finish_5 (by decide) ?_
  refine lv_iload_n hx hb dX0_finish_8 rfl (lv_at hl 1 rfl) ?_
  refine lv_ior hx hb dX0_finish_9 ?_
  refine lv_aload_n hx hb dX0_finish_10 rfl (lv_at hl 0 rfl) ?_
  refine va_get (D := G.1) (ci := 0) (v := .int t_withEvents) (C := RX0) (T := TX0) (N := 8) hx hb hB iX0 hown hK.1 hP 0 rfl rfl 7 (by decide) (hB _ kw150) (fun _ h9 => h9) rfl dX0_finish_11 ?_
  refine lv_if_eq (tgt := 22) hx hb dX0_finish_14 (by decide) (fun hc14 => ?_) (fun hc14 => ?_)
  · have h := brc_tt h hc14
    refine lv_iconst (v := (0 : Int32)) hx hb dX0_finish_22 (by decide) ?_
    exact wX0_finish_L23 C x2 x3 (0 : Int32) ((192 : Int32) ||| x1) (1 : Int32) t_row _ _ _ h hP hD hS (lv_sub hl [0, 2, 3] rfl)
  · have h := brc_ff h hc14
    refine lv_bipush (v := (32 : Int32)) hx hb dX0_finish_17 (by decide) ?_
    refine lv_goto (tgt := 23) hx hb dX0_finish_19 (by decide) ?_
    exact wX0_finish_L23 C x2 x3 (32 : Int32) ((192 : Int32) ||| x1) (1 : Int32) t_row _ _ _ h hP hD hS (lv_sub hl [0, 2, 3] rfl)
set_option maxHeartbeats 4000000 in
set_option maxRecDepth 100000 in
theorem mX0_finish (l : Launch) (G : GT) (a_t : Nat) (a_t_row : Nat) (a_t_request : Nat) (t_length : Int32) (t_requestLength : Int32) (t_faults : Int32) (t_withBinaries : Int32) (t_withAnalogs : Int32) (t_withEvents : Int32) (x1 : Int32) (x2 : Int32) (x3 : Int32) (t_row : Nat → Int32) (sz : Nat) (out : (Nat → Int32)) (h : fX0_finish t_faults t_withEvents x1 x2 x3 t_row = some out) : Met l yX0_finish wsX0_finish rmX0_finish (gPc G [.ref a_t, .int x1, .int x2, .int x3] sz (wdX0_finish G a_t a_t_row a_t_request t_length t_requestLength t_faults t_withBinaries t_withAnalogs t_withEvents t_row)) (gQv G (va_A (wdX0_finish G a_t a_t_row a_t_request t_length t_requestLength t_faults t_withBinaries t_withAnalogs t_withEvents t_row) sz) (wdX0_finish G a_t a_t_row a_t_request t_length t_requestLength t_faults t_withBinaries t_withAnalogs t_withEvents out)) 0 0 (va_A (wdX0_finish G a_t a_t_row a_t_request t_length t_requestLength t_faults t_withBinaries t_withAnalogs t_withEvents t_row) sz) := by
  refine Met.ofW (cc := cX0_finish) (maxL := 4) (ret := none) (by decide) rfl ?_
  intro p e s m args below meth c s₁ B hml hv
  obtain ⟨rfl, hsz, hP, hK, hD0⟩ := hv
  have hts := atoms_spec (ws := wsX0_finish) B.pre
  have hown : s.vm.findClass "OutStation$Answer" = some m.cls := findClass_of_methodNamed B.named
  subst hsz
  have hD := hD0.self (sz := s.heap.size)
  generalize hAe : va_A (wdX0_finish G a_t a_t_row a_t_request t_length t_requestLength t_faults t_withBinaries t_withAnalogs t_withEvents t_row) s.heap.size = A at hD ⊢
  have hA : ∀ q : Nat, s.heap.size ≤ q → A q := fun q h => by rw [← hAe]; exact Or.inr h
  have hS : va_S A s.heap s.heap [] := va_S.rf
  have hl := lv_entry ([.ref a_t, .int x1, .int x2, .int x3]) (n := 4) (Nat.le_of_ble_eq_true rfl)
  rw [lg_entry_eq]
  generalize (lg_sl ([.ref a_t, .int x1, .int x2, .int x3]) ++ List.replicate (4 - (lg_sl ([.ref a_t, .int x1, .int x2, .int x3])).length) Slot.unset).toArray = ls at hl ⊢
  exact wX0_finish_E ⟨B.exec, B.bytes, B.returns, hml, hown, hts, B.notSynchronized, hA, hK⟩ x1 x2 x3 t_row _ _ _ h hP hD hS hl
/-! ### OutStation$Answer.put (I)V -/
abbrev wdX0_put (G : GT) (a_t : Nat) (a_t_row : Nat) (a_t_request : Nat) (t_length : Int32) (t_requestLength : Int32) (t_faults : Int32) (t_withBinaries : Int32) (t_withAnalogs : Int32) (t_withEvents : Int32) (t_row : Nat → Int32) : va_W := [(a_t, .inr (0, [.ref a_t_row, .int t_length, .ref a_t_request, .int t_requestLength, .int t_faults, .int t_withBinaries, .int t_withAnalogs, .int t_withEvents])), (a_t_row, .inl (G.2.1, 250, .inl t_row))]
abbrev wsX0_put : List Cond := .code yX0_put cX0_put 2 none :: BG
abbrev rmX0_put : Room := { frames := 0, cells := 0, slots := 0, locals := 0 }
noncomputable def fX0_put_L36 (t_length : Int32) (t_row : Nat → Int32) : Option (Int32 × (Nat → Int32)) := some (t_length, t_row)
set_option maxHeartbeats 4000000 in
set_option maxRecDepth 100000 in
theorem wX0_put_L36 {p : Program} {l : Launch} {e : Env} {s : State} {m : MethodId} {args : Array Value} {below : List Frame} {meth : Method} {c : Code} {G : GT} {A : Nat → Prop} (C : cxt p s m args meth c cX0_put none 2 "OutStation$Answer" wsX0_put G A) {a_t : Nat} {a_t_row : Nat} {a_t_request : Nat} {t_requestLength : Int32} {t_faults : Int32} {t_withBinaries : Int32} {t_withAnalogs : Int32} {t_withEvents : Int32} {out : Int32 × (Nat → Int32)} : ∀ (t_length : Int32) (t_row : Nat → Int32) (H : Heap) (locs : List Loc) (ls : Array Slot), fX0_put_L36 t_length t_row = some out → va_P G.1 vwCl (wdX0_put G a_t a_t_row a_t_request t_length t_requestLength t_faults t_withBinaries t_withAnalogs t_withEvents t_row) H → va_D A (wdX0_put G a_t a_t_row a_t_request t_length t_requestLength t_faults t_withBinaries t_withAnalogs t_withEvents t_row) → va_S A s.heap H locs → lv_has ls 2 [] → W p l e rmX0_put s m args below meth c H locs 0 0 (MQ below (gQv G A (wdX0_put G a_t a_t_row a_t_request out.1 t_requestLength t_faults t_withBinaries t_withAnalogs t_withEvents out.2)) args s 0 0 A) (F0 m 36 ls []) := by
  obtain ⟨hx, hb, hr, hml, hown, hts, hlocks, hA, hK⟩ := id C
  have hB : ∀ w ∈ BG, w.before args s = true := fun w h => hts w (List.mem_cons_of_mem _ h)
  intro t_length t_row H locs ls h hP hD hS hl
  unfold fX0_put_L36 at h
  obtain rfl := Option.some.inj h
  exact W.vret hx hb hr (fun t ht hW => ⟨⟨(), rfl, trivial, by rw [ht]; exact hP, hD⟩, hS.F ht⟩) hS.2.2 dX0_put_36
noncomputable def fX0_put (x1 : Int32) (t_length : Int32) (t_row : Nat → Int32) : Option (Int32 × (Nat → Int32)) := brc ((250 : Int32) ≤ t_length) (fX0_put_L36 t_length t_row) (grd (vp_in t_length 250) (fX0_put_L36 (t_length + (1 : Int32)) (upd t_row (ix t_length) (x1 &&& (255 : Int32)))))
set_option maxHeartbeats 4000000 in
set_option maxRecDepth 100000 in
theorem wX0_put_E {p : Program} {l : Launch} {e : Env} {s : State} {m : MethodId} {args : Array Value} {below : List Frame} {meth : Method} {c : Code} {G : GT} {A : Nat → Prop} (C : cxt p s m args meth c cX0_put none 2 "OutStation$Answer" wsX0_put G A) {a_t : Nat} {a_t_row : Nat} {a_t_request : Nat} {t_requestLength : Int32} {t_faults : Int32} {t_withBinaries : Int32} {t_withAnalogs : Int32} {t_withEvents : Int32} {out : Int32 × (Nat → Int32)} : ∀ (x1 : Int32) (t_length : Int32) (t_row : Nat → Int32) (H : Heap) (locs : List Loc) (ls : Array Slot), fX0_put x1 t_length t_row = some out → va_P G.1 vwCl (wdX0_put G a_t a_t_row a_t_request t_length t_requestLength t_faults t_withBinaries t_withAnalogs t_withEvents t_row) H → va_D A (wdX0_put G a_t a_t_row a_t_request t_length t_requestLength t_faults t_withBinaries t_withAnalogs t_withEvents t_row) → va_S A s.heap H locs → lv_has ls 2 [(0, .ref a_t), (1, .int x1)] → W p l e rmX0_put s m args below meth c H locs 0 0 (MQ below (gQv G A (wdX0_put G a_t a_t_row a_t_request out.1 t_requestLength t_faults t_withBinaries t_withAnalogs t_withEvents out.2)) args s 0 0 A) (F0 m 0 ls []) := by
  obtain ⟨hx, hb, hr, hml, hown, hts, hlocks, hA, hK⟩ := id C
  have hB : ∀ w ∈ BG, w.before args s = true := fun w h => hts w (List.mem_cons_of_mem _ h)
  intro x1 t_length t_row H locs ls h hP hD hS hl
  unfold fX0_put at h
  refine lv_aload_n hx hb dX0_put_0 rfl (lv_at hl 0 rfl) ?_
  refine va_get (D := G.1) (ci := 0) (v := .int t_length) (C := RX0) (T := TX0) (N := 8) hx hb hB iX0 hown hK.1 hP 0 rfl rfl 1 (by decide) (hB _ kw144) (fun _ h9 => h9) rfl dX0_put_1 ?_
  refine lv_aload_n hx hb dX0_put_4 rfl (lv_at hl 0 rfl) ?_
  refine va_get (D := G.1) (ci := 0) (v := .ref a_t_row) (C := RX0) (T := TX0) (N := 8) hx hb hB iX0 hown hK.1 hP 0 rfl rfl 0 (by decide) (hB _ kw143) (fun _ h9 => h9) rfl dX0_put_5 ?_
  refine va_alen (v := (250 : Int32)) hx hb hK.1 hP 1 0 rfl rfl rfl dX0_put_8 ?_
  refine lv_icmp_ge (tgt := 36) hx hb dX0_put_9 (by decide) (fun hc9 => ?_) (fun hc9 => ?_)
  · have h := brc_tt h hc9
    exact wX0_put_L36 C t_length t_row _ _ _ h hP hD hS (lv_sub hl [] rfl)
  · have h := brc_ff h hc9
    refine lv_aload_n hx hb dX0_put_12 rfl (lv_at hl 0 rfl) ?_
    refine va_get (D := G.1) (ci := 0) (v := .ref a_t_row) (C := RX0) (T := TX0) (N := 8) hx hb hB iX0 hown hK.1 hP 0 rfl rfl 0 (by decide) (hB _ kw143) (fun _ h9 => h9) rfl dX0_put_13 ?_
    refine lv_aload_n hx hb dX0_put_16 rfl (lv_at hl 0 rfl) ?_
    refine va_get (D := G.1) (ci := 0) (v := .int t_length) (C := RX0) (T := TX0) (N := 8) hx hb hB iX0 hown hK.1 hP 0 rfl rfl 1 (by decide) (hB _ kw144) (fun _ h9 => h9) rfl dX0_put_17 ?_
    refine lv_iload_n hx hb dX0_put_20 rfl (lv_at hl 1 rfl) ?_
    refine lv_sipush (v := (255 : Int32)) hx hb dX0_put_21 (by decide) ?_
    refine lv_iand hx hb dX0_put_24 ?_
    obtain ⟨hg1, h⟩ := grd_some h
    refine va_iast hx hb hK.1 hP hD hS 1 0 rfl rfl hg1 dX0_put_25 (fun H locs hP hD hS => ?_)
    have hP : va_P G.1 vwCl (wdX0_put G a_t a_t_row a_t_request t_length t_requestLength t_faults t_withBinaries t_withAnalogs t_withEvents (upd t_row (ix t_length) (x1 &&& (255 : Int32)))) H := hP
    have hD : va_D A (wdX0_put G a_t a_t_row a_t_request t_length t_requestLength t_faults t_withBinaries t_withAnalogs t_withEvents (upd t_row (ix t_length) (x1 &&& (255 : Int32)))) := hD
    refine lv_aload_n hx hb dX0_put_26 rfl (lv_at hl 0 rfl) ?_
    refine lv_dup hx hb dX0_put_27 rfl ?_
    refine va_get (D := G.1) (ci := 0) (v := .int t_length) (C := RX0) (T := TX0) (N := 8) hx hb hB iX0 hown hK.1 hP 0 rfl rfl 1 (by decide) (hB _ kw144) (fun _ h9 => h9) rfl dX0_put_28 ?_
    refine lv_iconst (v := (1 : Int32)) hx hb dX0_put_31 (by decide) ?_
    refine lv_iadd hx hb dX0_put_32 ?_
    refine va_put (D := G.1) (ci := 0) (v := .int (t_length + (1 : Int32))) (ty := .int) (C := RX0) (T := TX0) (N := 8) hx hb hB iX0 tyX0 tyX0_ok nmX0 hown hK.1 hP hD hS 0 rfl rfl 1 (by decide) (hB _ kw144) (fun _ h9 => h9) rfl (by decide +kernel) rfl rfl (Nat.le_of_ble_eq_true rfl) dX0_put_33 (fun H locs hP hD hS => ?_)
    have hP : va_P G.1 vwCl (wdX0_put G a_t a_t_row a_t_request (t_length + (1 : Int32)) t_requestLength t_faults t_withBinaries t_withAnalogs t_withEvents (upd t_row (ix t_length) (x1 &&& (255 : Int32)))) H := hP
    have hD : va_D A (wdX0_put G a_t a_t_row a_t_request (t_length + (1 : Int32)) t_requestLength t_faults t_withBinaries t_withAnalogs t_withEvents (upd t_row (ix t_length) (x1 &&& (255 : Int32)))) := hD
    exact wX0_put_L36 C (t_length + (1 : Int32)) (upd t_row (ix t_length) (x1 &&& (255 : Int32))) _ _ _ h hP hD hS (lv_sub hl [] rfl)
set_option maxHeartbeats 4000000 in
set_option maxRecDepth 100000 in
theorem mX0_put (l : Launch) (G : GT) (a_t : Nat) (a_t_row : Nat) (a_t_request : Nat) (t_requestLength : Int32) (t_faults : Int32) (t_withBinaries : Int32) (t_withAnalogs : Int32) (t_withEvents : Int32) (x1 : Int32) (t_length : Int32) (t_row : Nat → Int32) (sz : Nat) (out : Int32 × (Nat → Int32)) (h : fX0_put x1 t_length t_row = some out) : Met l yX0_put wsX0_put rmX0_put (gPc G [.ref a_t, .int x1] sz (wdX0_put G a_t a_t_row a_t_request t_length t_requestLength t_faults t_withBinaries t_withAnalogs t_withEvents t_row)) (gQv G (va_A (wdX0_put G a_t a_t_row a_t_request t_length t_requestLength t_faults t_withBinaries t_withAnalogs t_withEvents t_row) sz) (wdX0_put G a_t a_t_row a_t_request out.1 t_requestLength t_faults t_withBinaries t_withAnalogs t_withEvents out.2)) 0 0 (va_A (wdX0_put G a_t a_t_row a_t_request t_length t_requestLength t_faults t_withBinaries t_withAnalogs t_withEvents t_row) sz) := by
  refine Met.ofW (cc := cX0_put) (maxL := 2) (ret := none) (by decide) rfl ?_
  intro p e s m args below meth c s₁ B hml hv
  obtain ⟨rfl, hsz, hP, hK, hD0⟩ := hv
  have hts := atoms_spec (ws := wsX0_put) B.pre
  have hown : s.vm.findClass "OutStation$Answer" = some m.cls := findClass_of_methodNamed B.named
  subst hsz
  have hD := hD0.self (sz := s.heap.size)
  generalize hAe : va_A (wdX0_put G a_t a_t_row a_t_request t_length t_requestLength t_faults t_withBinaries t_withAnalogs t_withEvents t_row) s.heap.size = A at hD ⊢
  have hA : ∀ q : Nat, s.heap.size ≤ q → A q := fun q h => by rw [← hAe]; exact Or.inr h
  have hS : va_S A s.heap s.heap [] := va_S.rf
  have hl := lv_entry ([.ref a_t, .int x1]) (n := 2) (Nat.le_of_ble_eq_true rfl)
  rw [lg_entry_eq]
  generalize (lg_sl ([.ref a_t, .int x1]) ++ List.replicate (2 - (lg_sl ([.ref a_t, .int x1])).length) Slot.unset).toArray = ls at hl ⊢
  exact wX0_put_E ⟨B.exec, B.bytes, B.returns, hml, hown, hts, B.notSynchronized, hA, hK⟩ x1 t_length t_row _ _ _ h hP hD hS hl
/-! ### OutStation$Answer.putRange ([III)V -/
abbrev wdX0_putRange (G : GT) (a_t : Nat) (a_t_row : Nat) (a_p1 : Nat) (a_t_request : Nat) (N_p1 : Nat) (t_length : Int32) (t_requestLength : Int32) (t_faults : Int32) (t_withBinaries : Int32) (t_withAnalogs : Int32) (t_withEvents : Int32) (t_row : Nat → Int32) (p1 : Nat → Int32) : va_W := [(a_t, .inr (0, [.ref a_t_row, .int t_length, .ref a_t_request, .int t_requestLength, .int t_faults, .int t_withBinaries, .int t_withAnalogs, .int t_withEvents])), (a_t_row, .inl (G.2.1, 250, .inl t_row)), (a_p1, .inl (G.2.1, N_p1, .inl p1))]
abbrev wsX0_putRange : List Cond := .code yX0_putRange cX0_putRange 5 none :: BG
abbrev rmX0_putRange : Room := { frames := 1, cells := 0, slots := 0, locals := 21 }
noncomputable def fX0_putRange_L3 (N_p1 : Nat) (p1 : Nat → Int32) (n : Nat) : Int32 → Int32 → Int32 → (Nat → Int32) → Option (Int32 × (Nat → Int32)) := Nat.rec (motive := fun _ => Int32 → Int32 → Int32 → (Nat → Int32) → Option (Int32 × (Nat → Int32))) (fun _ _ _ _ => none) (fun _ k_L3 x3 x4 t_length t_row => brc (x3 ≤ x4) (some (t_length, t_row)) (grd (vp_in x4 N_p1) (bnd (fX0_put (p1 (ix x4)) t_length t_row) (fun u2 => k_L3 x3 (x4 + (1 : Int32)) u2.1 u2.2)))) n
set_option maxHeartbeats 4000000 in
set_option maxRecDepth 100000 in
theorem wX0_putRange_L3 {p : Program} {l : Launch} {e : Env} {s : State} {m : MethodId} {args : Array Value} {below : List Frame} {meth : Method} {c : Code} {G : GT} {A : Nat → Prop} (C : cxt p s m args meth c cX0_putRange none 5 "OutStation$Answer" wsX0_putRange G A) {a_t : Nat} {a_t_row : Nat} {a_p1 : Nat} {a_t_request : Nat} {N_p1 : Nat} {t_requestLength : Int32} {t_faults : Int32} {t_withBinaries : Int32} {t_withAnalogs : Int32} {t_withEvents : Int32} {p1 : Nat → Int32} {out : Int32 × (Nat → Int32)} : ∀ (n : Nat) (x3 : Int32) (x4 : Int32) (t_length : Int32) (t_row : Nat → Int32) (H : Heap) (locs : List Loc) (ls : Array Slot), fX0_putRange_L3 N_p1 p1 n x3 x4 t_length t_row = some out → va_P G.1 vwCl (wdX0_putRange G a_t a_t_row a_p1 a_t_request N_p1 t_length t_requestLength t_faults t_withBinaries t_withAnalogs t_withEvents t_row p1) H → va_D A (wdX0_putRange G a_t a_t_row a_p1 a_t_request N_p1 t_length t_requestLength t_faults t_withBinaries t_withAnalogs t_withEvents t_row p1) → va_S A s.heap H locs → lv_has ls 5 [(0, .ref a_t), (1, .ref a_p1), (3, .int x3), (4, .int x4)] → W p l e rmX0_putRange s m args below meth c H locs 0 0 (MQ below (gQv G A (wdX0_putRange G a_t a_t_row a_p1 a_t_request N_p1 out.1 t_requestLength t_faults t_withBinaries t_withAnalogs t_withEvents out.2 p1)) args s 0 0 A) (F0 m 3 ls []) := by
  obtain ⟨hx, hb, hr, hml, hown, hts, hlocks, hA, hK⟩ := id C
  have hB : ∀ w ∈ BG, w.before args s = true := fun w h => hts w (List.mem_cons_of_mem _ h)
  intro n
  induction n with
  | zero =>
    intro x3 x4 t_length t_row H locs ls h hP hD hS hl
    cases h
  | succ n ih =>
    intro x3 x4 t_length t_row H locs ls h hP hD hS hl
    replace h : brc (x3 ≤ x4) (some (t_length, t_row)) (grd (vp_in x4 N_p1) (bnd (fX0_put (p1 (ix x4)) t_length t_row) (fun u2 => (fX0_putRange_L3 N_p1 p1 n) x3 (x4 + (1 : Int32)) u2.1 u2.2))) = some out := h
    refine lv_iload hx hb dX0_putRange_3 (lv_at hl 3 rfl) ?_
    refine lv_iload_n hx hb dX0_putRange_5 rfl (lv_at hl 2 rfl) ?_
    refine lv_icmp_ge (tgt := 23) hx hb dX0_putRange_6 (by decide) (fun hc6 => ?_) (fun hc6 => ?_)
    · have h := brc_tt h hc6
      obtain rfl := Option.some.inj h
      exact W.vret hx hb hr (fun t ht hW => ⟨⟨(), rfl, trivial, by rw [ht]; exact hP, hD⟩, hS.F ht⟩) hS.2.2 dX0_putRange_23
    · have h := brc_ff h hc6
      refine lv_aload_n hx hb dX0_putRange_9 rfl (lv_at hl 0 rfl) ?_
      refine lv_aload_n hx hb dX0_putRange_10 rfl (lv_at hl 1 rfl) ?_
      refine lv_iload hx hb dX0_putRange_11 (lv_at hl 3 rfl) ?_
      obtain ⟨hg1, h⟩ := grd_some h
      refine va_iald hx hb hK.1 hP 2 0 rfl rfl hg1 dX0_putRange_13 ?_
      obtain ⟨u2, hu2, h⟩ := bnd_some h
      have hPc := hP.sub (ws' := (wdX0_put G a_t a_t_row a_t_request t_length t_requestLength t_faults t_withBinaries t_withAnalogs t_withEvents t_row)) [0, 1] rfl
      have hDc := hD.sub (ws' := (wdX0_put G a_t a_t_row a_t_request t_length t_requestLength t_faults t_withBinaries t_withAnalogs t_withEvents t_row)) [0, 1] (by decide) rfl
      refine g_v (wc := (wdX0_put G a_t a_t_row a_t_request t_length t_requestLength t_faults t_withBinaries t_withAnalogs t_withEvents t_row)) (w1 := (wdX0_put G a_t a_t_row a_t_request u2.1 t_requestLength t_faults t_withBinaries t_withAnalogs t_withEvents u2.2)) (w2 := (wdX0_putRange G a_t a_t_row a_p1 a_t_request N_p1 u2.1 t_requestLength t_faults t_withBinaries t_withAnalogs t_withEvents u2.2 p1)) (va_runV (As := [.int (p1 (ix x4))]) (rest := []) ⟨hx, hb, hml, hown, hts⟩ (mX0_put l G a_t a_t_row a_t_request t_requestLength t_faults t_withBinaries t_withAnalogs t_withEvents (p1 (ix x4)) t_length t_row H.size u2 hu2) ⟨(callB_of 1 hts (bgIn kw619) rfl rfl rfl (hB _ kw50) (hB _ kw616) hdX0_put ⟨(Nat.le_of_ble_eq_true rfl), (Nat.le_of_ble_eq_true rfl)⟩), hB _ kw617, hB _ kw618⟩ (gPreV (ci := 0) (qr := 0) hK hPc hDc rfl rfl rfl) rfl rfl hl.1 rfl (lv_room (Nat.le_of_ble_eq_true rfl)) dX0_putRange_14 ⟨(Nat.le_of_ble_eq_true rfl), (Nat.le_of_ble_eq_true rfl)⟩) hP hD hS hA [0, 1] rfl rfl [.inr 0, .inr 1, .inl 2] rfl rfl (fun H locs hP hD hS => ?_)
      refine lv_iinc (v := (x4 + (1 : Int32))) (lv' := [(4, .int (x4 + (1 : Int32))), (0, .ref a_t), (1, .ref a_p1), (3, .int x3)]) hx hb dX0_putRange_17 hl (k := 3) rfl rfl (by decide) rfl (fun ls hl => ?_)
      refine lv_goto (tgt := 3) hx hb dX0_putRange_20 (by decide) ?_
      exact ih x3 (x4 + (1 : Int32)) u2.1 u2.2 _ _ _ h hP hD hS (lv_sub hl [1, 2, 3, 0] rfl)
noncomputable def fX0_putRange (N_p1 : Nat) (p1 : Nat → Int32) (x2 : Int32) (x3 : Int32) (t_length : Int32) (t_row : Nat → Int32) : Option (Int32 × (Nat → Int32)) := fX0_putRange_L3 N_p1 p1 FU x3 x2 t_length t_row
set_option maxHeartbeats 4000000 in
set_option maxRecDepth 100000 in
theorem wX0_putRange_E {p : Program} {l : Launch} {e : Env} {s : State} {m : MethodId} {args : Array Value} {below : List Frame} {meth : Method} {c : Code} {G : GT} {A : Nat → Prop} (C : cxt p s m args meth c cX0_putRange none 5 "OutStation$Answer" wsX0_putRange G A) {a_t : Nat} {a_t_row : Nat} {a_p1 : Nat} {a_t_request : Nat} {N_p1 : Nat} {t_requestLength : Int32} {t_faults : Int32} {t_withBinaries : Int32} {t_withAnalogs : Int32} {t_withEvents : Int32} {p1 : Nat → Int32} {out : Int32 × (Nat → Int32)} : ∀ (x2 : Int32) (x3 : Int32) (t_length : Int32) (t_row : Nat → Int32) (H : Heap) (locs : List Loc) (ls : Array Slot), fX0_putRange N_p1 p1 x2 x3 t_length t_row = some out → va_P G.1 vwCl (wdX0_putRange G a_t a_t_row a_p1 a_t_request N_p1 t_length t_requestLength t_faults t_withBinaries t_withAnalogs t_withEvents t_row p1) H → va_D A (wdX0_putRange G a_t a_t_row a_p1 a_t_request N_p1 t_length t_requestLength t_faults t_withBinaries t_withAnalogs t_withEvents t_row p1) → va_S A s.heap H locs → lv_has ls 5 [(0, .ref a_t), (1, .ref a_p1), (2, .int x2), (3, .int x3)] → W p l e rmX0_putRange s m args below meth c H locs 0 0 (MQ below (gQv G A (wdX0_putRange G a_t a_t_row a_p1 a_t_request N_p1 out.1 t_requestLength t_faults t_withBinaries t_withAnalogs t_withEvents out.2 p1)) args s 0 0 A) (F0 m 0 ls []) := by
  obtain ⟨hx, hb, hr, hml, hown, hts, hlocks, hA, hK⟩ := id C
  have hB : ∀ w ∈ BG, w.before args s = true := fun w h => hts w (List.mem_cons_of_mem _ h)
  intro x2 x3 t_length t_row H locs ls h hP hD hS hl
  unfold fX0_putRange at h
  refine lv_iload_n hx hb dX0_putRange_0 rfl (lv_at hl 2 rfl) ?_
  refine lv_istore (lv' := [(4, .int x2), (0, .ref a_t), (1, .ref a_p1), (2, .int x2), (3, .int x3)]) hx hb dX0_putRange_1 hl (by decide) rfl (fun ls hl => ?_)
  exact wX0_putRange_L3 C FU x3 x2 t_length t_row _ _ _ h hP hD hS (lv_sub hl [1, 2, 4, 0] rfl)
set_option maxHeartbeats 4000000 in
set_option maxRecDepth 100000 in
theorem mX0_putRange (l : Launch) (G : GT) (a_t : Nat) (a_t_row : Nat) (a_p1 : Nat) (a_t_request : Nat) (N_p1 : Nat) (t_requestLength : Int32) (t_faults : Int32) (t_withBinaries : Int32) (t_withAnalogs : Int32) (t_withEvents : Int32) (p1 : Nat → Int32) (x2 : Int32) (x3 : Int32) (t_length : Int32) (t_row : Nat → Int32) (sz : Nat) (out : Int32 × (Nat → Int32)) (h : fX0_putRange N_p1 p1 x2 x3 t_length t_row = some out) : Met l yX0_putRange wsX0_putRange rmX0_putRange (gPc G [.ref a_t, .ref a_p1, .int x2, .int x3] sz (wdX0_putRange G a_t a_t_row a_p1 a_t_request N_p1 t_length t_requestLength t_faults t_withBinaries t_withAnalogs t_withEvents t_row p1)) (gQv G (va_A (wdX0_putRange G a_t a_t_row a_p1 a_t_request N_p1 t_length t_requestLength t_faults t_withBinaries t_withAnalogs t_withEvents t_row p1) sz) (wdX0_putRange G a_t a_t_row a_p1 a_t_request N_p1 out.1 t_requestLength t_faults t_withBinaries t_withAnalogs t_withEvents out.2 p1)) 0 0 (va_A (wdX0_putRange G a_t a_t_row a_p1 a_t_request N_p1 t_length t_requestLength t_faults t_withBinaries t_withAnalogs t_withEvents t_row p1) sz) := by
  refine Met.ofW (cc := cX0_putRange) (maxL := 5) (ret := none) (by decide) rfl ?_
  intro p e s m args below meth c s₁ B hml hv
  obtain ⟨rfl, hsz, hP, hK, hD0⟩ := hv
  have hts := atoms_spec (ws := wsX0_putRange) B.pre
  have hown : s.vm.findClass "OutStation$Answer" = some m.cls := findClass_of_methodNamed B.named
  subst hsz
  have hD := hD0.self (sz := s.heap.size)
  generalize hAe : va_A (wdX0_putRange G a_t a_t_row a_p1 a_t_request N_p1 t_length t_requestLength t_faults t_withBinaries t_withAnalogs t_withEvents t_row p1) s.heap.size = A at hD ⊢
  have hA : ∀ q : Nat, s.heap.size ≤ q → A q := fun q h => by rw [← hAe]; exact Or.inr h
  have hS : va_S A s.heap s.heap [] := va_S.rf
  have hl := lv_entry ([.ref a_t, .ref a_p1, .int x2, .int x3]) (n := 5) (Nat.le_of_ble_eq_true rfl)
  rw [lg_entry_eq]
  generalize (lg_sl ([.ref a_t, .ref a_p1, .int x2, .int x3]) ++ List.replicate (5 - (lg_sl ([.ref a_t, .ref a_p1, .int x2, .int x3])).length) Slot.unset).toArray = ls at hl ⊢
  exact wX0_putRange_E ⟨B.exec, B.bytes, B.returns, hml, hown, hts, B.notSynchronized, hA, hK⟩ x2 x3 t_length t_row _ _ _ h hP hD hS hl
/-! ### OutStation$Answer.hasRoom (I)Z -/
abbrev wdX0_hasRoom (G : GT) (a_t : Nat) (a_t_row : Nat) (a_t_request : Nat) (t_length : Int32) (t_requestLength : Int32) (t_faults : Int32) (t_withBinaries : Int32) (t_withAnalogs : Int32) (t_withEvents : Int32) (t_row : Nat → Int32) : va_W := [(a_t, .inr (0, [.ref a_t_row, .int t_length, .ref a_t_request, .int t_requestLength, .int t_faults, .int t_withBinaries, .int t_withAnalogs, .int t_withEvents])), (a_t_row, .inl (G.2.1, 250, .inl t_row))]
abbrev wsX0_hasRoom : List Cond := .code yX0_hasRoom cX0_hasRoom 2 (some .boolean) :: BG
abbrev rmX0_hasRoom : Room := { frames := 0, cells := 0, slots := 0, locals := 0 }
noncomputable def fX0_hasRoom_L19 (t_length : Int32) (s0 : Int32) : Option (Int32) := grd (isB s0) (some (s0))
set_option maxHeartbeats 4000000 in
set_option maxRecDepth 100000 in
theorem wX0_hasRoom_L19 {p : Program} {l : Launch} {e : Env} {s : State} {m : MethodId} {args : Array Value} {below : List Frame} {meth : Method} {c : Code} {G : GT} {A : Nat → Prop} (C : cxt p s m args meth c cX0_hasRoom (some .boolean) 2 "OutStation$Answer" wsX0_hasRoom G A) {a_t : Nat} {a_t_row : Nat} {a_t_request : Nat} {t_length : Int32} {t_requestLength : Int32} {t_faults : Int32} {t_withBinaries : Int32} {t_withAnalogs : Int32} {t_withEvents : Int32} {t_row : Nat → Int32} {out : Int32} : ∀ (s0 : Int32) (H : Heap) (locs : List Loc) (ls : Array Slot), fX0_hasRoom_L19 t_length s0 = some out → va_P G.1 vwCl (wdX0_hasRoom G a_t a_t_row a_t_request t_length t_requestLength t_faults t_withBinaries t_withAnalogs t_withEvents t_row) H → va_D A (wdX0_hasRoom G a_t a_t_row a_t_request t_length t_requestLength t_faults t_withBinaries t_withAnalogs t_withEvents t_row) → va_S A s.heap H locs → lv_has ls 2 [] → W p l e rmX0_hasRoom s m args below meth c H locs 0 0 (MQ below (gQi G A out (wdX0_hasRoom G a_t a_t_row a_t_request t_length t_requestLength t_faults t_withBinaries t_withAnalogs t_withEvents t_row)) args s 0 0 A) (F0 m 19 ls [.int s0]) := by
  obtain ⟨hx, hb, hr, hml, hown, hts, hlocks, hA, hK⟩ := id C
  have hB : ∀ w ∈ BG, w.before args s = true := fun w h => hts w (List.mem_cons_of_mem _ h)
  intro s0 H locs ls h hP hD hS hl
  unfold fX0_hasRoom_L19 at h
  obtain ⟨hg1, h⟩ := grd_some h
  obtain rfl := Option.some.inj h
  exact W.zret (v := s0) hx hb hr (isB_nar hg1) (fun t ht hW => ⟨⟨_, (), rfl, rfl, by rw [ht]; exact hP, hD⟩, hS.F ht⟩) hS.2.2 dX0_hasRoom_19
noncomputable def fX0_hasRoom (t_length : Int32) (x1 : Int32) : Option (Int32) := brc ((250 : Int32) < (t_length + x1)) (fX0_hasRoom_L19 t_length (0 : Int32)) (fX0_hasRoom_L19 t_length (1 : Int32))
set_option maxHeartbeats 4000000 in
set_option maxRecDepth 100000 in
theorem wX0_hasRoom_E {p : Program} {l : Launch} {e : Env} {s : State} {m : MethodId} {args : Array Value} {below : List Frame} {meth : Method} {c : Code} {G : GT} {A : Nat → Prop} (C : cxt p s m args meth c cX0_hasRoom (some .boolean) 2 "OutStation$Answer" wsX0_hasRoom G A) {a_t : Nat} {a_t_row : Nat} {a_t_request : Nat} {t_length : Int32} {t_requestLength : Int32} {t_faults : Int32} {t_withBinaries : Int32} {t_withAnalogs : Int32} {t_withEvents : Int32} {t_row : Nat → Int32} {out : Int32} : ∀ (x1 : Int32) (H : Heap) (locs : List Loc) (ls : Array Slot), fX0_hasRoom t_length x1 = some out → va_P G.1 vwCl (wdX0_hasRoom G a_t a_t_row a_t_request t_length t_requestLength t_faults t_withBinaries t_withAnalogs t_withEvents t_row) H → va_D A (wdX0_hasRoom G a_t a_t_row a_t_request t_length t_requestLength t_faults t_withBinaries t_withAnalogs t_withEvents t_row) → va_S A s.heap H locs → lv_has ls 2 [(0, .ref a_t), (1, .int x1)] → W p l e rmX0_hasRoom s m args below meth c H locs 0 0 (MQ below (gQi G A out (wdX0_hasRoom G a_t a_t_row a_t_request t_length t_requestLength t_faults t_withBinaries t_withAnalogs t_withEvents t_row)) args s 0 0 A) (F0 m 0 ls []) := by
  obtain ⟨hx, hb, hr, hml, hown, hts, hlocks, hA, hK⟩ := id C
  have hB : ∀ w ∈ BG, w.before args s = true := fun w h => hts w (List.mem_cons_of_mem _ h)
  intro x1 H locs ls h hP hD hS hl
  unfold fX0_hasRoom at h
  refine lv_aload_n hx hb dX0_hasRoom_0 rfl (lv_at hl 0 rfl) ?_
  refine va_get (D := G.1) (ci := 0) (v := .int t_length) (C := RX0) (T := TX0) (N := 8) hx hb hB iX0 hown hK.1 hP 0 rfl rfl 1 (by decide) (hB _ kw144) (fun _ h9 => h9) rfl dX0_hasRoom_1 ?_
  refine lv_iload_n hx hb dX0_hasRoom_4 rfl (lv_at hl 1 rfl) ?_
  refine lv_iadd hx hb dX0_hasRoom_5 ?_
  refine lv_aload_n hx hb dX0_hasRoom_6 rfl (lv_at hl 0 rfl) ?_
  refine va_get (D := G.1) (ci := 0) (v := .ref a_t_row) (C := RX0) (T := TX0) (N := 8) hx hb hB iX0 hown hK.1 hP 0 rfl rfl 0 (by decide) (hB _ kw143) (fun _ h9 => h9) rfl dX0_hasRoom_7 ?_
  refine va_alen (v := (250 : Int32)) hx hb hK.1 hP 1 0 rfl rfl rfl dX0_hasRoom_10 ?_
  refine lv_icmp_gt (tgt := 18) hx hb dX0_hasRoom_11 (by decide) (fun hc11 => ?_) (fun hc11 => ?_)
  · have h := brc_tt h hc11
    refine lv_iconst (v := (0 : Int32)) hx hb dX0_hasRoom_18 (by decide) ?_
    exact wX0_hasRoom_L19 C (0 : Int32) _ _ _ h hP hD hS (lv_sub hl [] rfl)
  · have h := brc_ff h hc11
    refine lv_iconst (v := (1 : Int32)) hx hb dX0_hasRoom_14 (by decide) ?_
    refine lv_goto (tgt := 19) hx hb dX0_hasRoom_15 (by decide) ?_
    exact wX0_hasRoom_L19 C (1 : Int32) _ _ _ h hP hD hS (lv_sub hl [] rfl)
set_option maxHeartbeats 4000000 in
set_option maxRecDepth 100000 in
theorem mX0_hasRoom (l : Launch) (G : GT) (a_t : Nat) (a_t_row : Nat) (a_t_request : Nat) (t_length : Int32) (t_requestLength : Int32) (t_faults : Int32) (t_withBinaries : Int32) (t_withAnalogs : Int32) (t_withEvents : Int32) (t_row : Nat → Int32) (x1 : Int32) (sz : Nat) (out : Int32) (h : fX0_hasRoom t_length x1 = some out) : Met l yX0_hasRoom wsX0_hasRoom rmX0_hasRoom (gPc G [.ref a_t, .int x1] sz (wdX0_hasRoom G a_t a_t_row a_t_request t_length t_requestLength t_faults t_withBinaries t_withAnalogs t_withEvents t_row)) (gQi G (va_A (wdX0_hasRoom G a_t a_t_row a_t_request t_length t_requestLength t_faults t_withBinaries t_withAnalogs t_withEvents t_row) sz) out (wdX0_hasRoom G a_t a_t_row a_t_request t_length t_requestLength t_faults t_withBinaries t_withAnalogs t_withEvents t_row)) 0 0 (va_A (wdX0_hasRoom G a_t a_t_row a_t_request t_length t_requestLength t_faults t_withBinaries t_withAnalogs t_withEvents t_row) sz) := by
  refine Met.ofW (cc := cX0_hasRoom) (maxL := 2) (ret := (some .boolean)) (by decide) rfl ?_
  intro p e s m args below meth c s₁ B hml hv
  obtain ⟨rfl, hsz, hP, hK, hD0⟩ := hv
  have hts := atoms_spec (ws := wsX0_hasRoom) B.pre
  have hown : s.vm.findClass "OutStation$Answer" = some m.cls := findClass_of_methodNamed B.named
  subst hsz
  have hD := hD0.self (sz := s.heap.size)
  generalize hAe : va_A (wdX0_hasRoom G a_t a_t_row a_t_request t_length t_requestLength t_faults t_withBinaries t_withAnalogs t_withEvents t_row) s.heap.size = A at hD ⊢
  have hA : ∀ q : Nat, s.heap.size ≤ q → A q := fun q h => by rw [← hAe]; exact Or.inr h
  have hS : va_S A s.heap s.heap [] := va_S.rf
  have hl := lv_entry ([.ref a_t, .int x1]) (n := 2) (Nat.le_of_ble_eq_true rfl)
  rw [lg_entry_eq]
  generalize (lg_sl ([.ref a_t, .int x1]) ++ List.replicate (2 - (lg_sl ([.ref a_t, .int x1])).length) Slot.unset).toArray = ls at hl ⊢
  exact wX0_hasRoom_E ⟨B.exec, B.bytes, B.returns, hml, hown, hts, B.notSynchronized, hA, hK⟩ x1 _ _ _ h hP hD hS hl
/-! ### OutStation$Answer.putStaticHead (I)V -/
abbrev wdX0_putStaticHead (G : GT) (a_t : Nat) (a_t_row : Nat) (a_t_request : Nat) (t_length : Int32) (t_requestLength : Int32) (t_faults : Int32) (t_withBinaries : Int32) (t_withAnalogs : Int32) (t_withEvents : Int32) (t_row : Nat → Int32) : va_W := [(a_t, .inr (0, [.ref a_t_row, .int t_length, .ref a_t_request, .int t_requestLength, .int t_faults, .int t_withBinaries, .int t_withAnalogs, .int t_withEvents])), (a_t_row, .inl (G.2.1, 250, .inl t_row))]
abbrev wsX0_putStaticHead : List Cond := .code yX0_putStaticHead cX0_putStaticHead 2 none :: BG
abbrev rmX0_putStaticHead : Room := { frames := 1, cells := 0, slots := 0, locals := 21 }
noncomputable def fX0_putStaticHead (x1 : Int32) (t_length : Int32) (t_row : Nat → Int32) : Option (Int32 × (Nat → Int32)) := bnd (fX0_put x1 t_length t_row) (fun u1 => bnd (fX0_put (2 : Int32) u1.1 u1.2) (fun u2 => bnd (fX0_put (0 : Int32) u2.1 u2.2) (fun u3 => bnd (fX0_put (0 : Int32) u3.1 u3.2) (fun u4 => bnd (fX0_put (15 : Int32) u4.1 u4.2) (fun u5 => some (u5.1, u5.2))))))
set_option maxHeartbeats 4000000 in
set_option maxRecDepth 100000 in
theorem wX0_putStaticHead_E {p : Program} {l : Launch} {e : Env} {s : State} {m : MethodId} {args : Array Value} {below : List Frame} {meth : Method} {c : Code} {G : GT} {A : Nat → Prop} (C : cxt p s m args meth c cX0_putStaticHead none 2 "OutStation$Answer" wsX0_putStaticHead G A) {a_t : Nat} {a_t_row : Nat} {a_t_request : Nat} {t_requestLength : Int32} {t_faults : Int32} {t_withBinaries : Int32} {t_withAnalogs : Int32} {t_withEvents : Int32} {out : Int32 × (Nat → Int32)} : ∀ (x1 : Int32) (t_length : Int32) (t_row : Nat → Int32) (H : Heap) (locs : List Loc) (ls : Array Slot), fX0_putStaticHead x1 t_length t_row = some out → va_P G.1 vwCl (wdX0_putStaticHead G a_t a_t_row a_t_request t_length t_requestLength t_faults t_withBinaries t_withAnalogs t_withEvents t_row) H → va_D A (wdX0_putStaticHead G a_t a_t_row a_t_request t_length t_requestLength t_faults t_withBinaries t_withAnalogs t_withEvents t_row) → va_S A s.heap H locs → lv_has ls 2 [(0, .ref a_t), (1, .int x1)] → W p l e rmX0_putStaticHead s m args below meth c H locs 0 0 (MQ below (gQv G A (wdX0_putStaticHead G a_t a_t_row a_t_request out.1 t_requestLength t_faults t_withBinaries t_withAnalogs t_withEvents out.2)) args s 0 0 A) (F0 m 0 ls []) := by
  obtain ⟨hx, hb, hr, hml, hown, hts, hlocks, hA, hK⟩ := id C
  have hB : ∀ w ∈ BG, w.before args s = true := fun w h => hts w (List.mem_cons_of_mem _ h)
  intro x1 t_length t_row H locs ls h hP hD hS hl
  unfold fX0_putStaticHead at h
  refine lv_aload_n hx hb dX0_putStaticHead_0 rfl (lv_at hl 0 rfl) ?_
  refine lv_iload_n hx hb dX0_putStaticHead_1 rfl (lv_at hl 1 rfl) ?_
  obtain ⟨u1, hu1, h⟩ := bnd_some h
  have hPc := hP.sub (ws' := (wdX0_put G a_t a_t_row a_t_request t_length t_requestLength t_faults t_withBinaries t_withAnalogs t_withEvents t_row)) [0, 1] rfl
  have hDc := hD.sub (ws' := (wdX0_put G a_t a_t_row a_t_request t_length t_requestLength t_faults t_withBinaries t_withAnalogs t_withEvents t_row)) [0, 1] (by decide) rfl
  refine g_v (wc := (wdX0_put G a_t a_t_row a_t_request t_length t_requestLength t_faults t_withBinaries t_withAnalogs t_withEvents t_row)) (w1 := (wdX0_put G a_t a_t_row a_t_request u1.1 t_requestLength t_faults t_withBinaries t_withAnalogs t_withEvents u1.2)) (w2 := (wdX0_putStaticHead G a_t a_t_row a_t_request u1.1 t_requestLength t_faults t_withBinaries t_withAnalogs t_withEvents u1.2)) (va_runV (As := [.int x1]) (rest := []) ⟨hx, hb, hml, hown, hts⟩ (mX0_put l G a_t a_t_row a_t_request t_requestLength t_faults t_withBinaries t_withAnalogs t_withEvents x1 t_length t_row H.size u1 hu1) ⟨(callB_of 1 hts (bgIn kw619) rfl rfl rfl (hB _ kw50) (hB _ kw616) hdX0_put ⟨(Nat.le_of_ble_eq_true rfl), (Nat.le_of_ble_eq_true rfl)⟩), hB _ kw617, hB _ kw618⟩ (gPreV (ci := 0) (qr := 0) hK hPc hDc rfl rfl rfl) rfl rfl hl.1 rfl (lv_room (Nat.le_of_ble_eq_true rfl)) dX0_putStaticHead_2 ⟨(Nat.le_of_ble_eq_true rfl), (Nat.le_of_ble_eq_true rfl)⟩) hP hD hS hA [0, 1] rfl rfl [.inr 0, .inr 1] rfl rfl (fun H locs hP hD hS => ?_)
  refine lv_aload_n hx hb dX0_putStaticHead_5 rfl (lv_at hl 0 rfl) ?_
  refine lv_iconst (v := (2 : Int32)) hx hb dX0_putStaticHead_6 (by decide) ?_
  obtain ⟨u2, hu2, h⟩ := bnd_some h
  have hPc := hP.sub (ws' := (wdX0_put G a_t a_t_row a_t_request u1.1 t_requestLength t_faults t_withBinaries t_withAnalogs t_withEvents u1.2)) [0, 1] rfl
  have hDc := hD.sub (ws' := (wdX0_put G a_t a_t_row a_t_request u1.1 t_requestLength t_faults t_withBinaries t_withAnalogs t_withEvents u1.2)) [0, 1] (by decide) rfl
  refine g_v (wc := (wdX0_put G a_t a_t_row a_t_request u1.1 t_requestLength t_faults t_withBinaries t_withAnalogs t_withEvents u1.2)) (w1 := (wdX0_put G a_t a_t_row a_t_request u2.1 t_requestLength t_faults t_withBinaries t_withAnalogs t_withEvents u2.2)) (w2 := (wdX0_putStaticHead G a_t a_t_row a_t_request u2.1 t_requestLength t_faults t_withBinaries t_withAnalogs t_withEvents u2.2)) (va_runV (As := [.int (2 : Int32)]) (rest := []) ⟨hx, hb, hml, hown, hts⟩ (mX0_put l G a_t a_t_row a_t_request t_requestLength t_faults t_withBinaries t_withAnalogs t_withEvents (2 : Int32) u1.1 u1.2 H.size u2 hu2) ⟨(callB_of 1 hts (bgIn kw619) rfl rfl rfl (hB _ kw50) (hB _ kw616) hdX0_put ⟨(Nat.le_of_ble_eq_true rfl), (Nat.le_of_ble_eq_true rfl)⟩), hB _ kw617, hB _ kw618⟩ (gPreV (ci := 0) (qr := 0) hK hPc hDc rfl rfl rfl) rfl rfl hl.1 rfl (lv_room (Nat.le_of_ble_eq_true rfl)) dX0_putStaticHead_7 ⟨(Nat.le_of_ble_eq_true rfl), (Nat.le_of_ble_eq_true rfl)⟩) hP hD hS hA [0, 1] rfl rfl [.inr 0, .inr 1] rfl rfl (fun H locs hP hD hS => ?_)
  refine lv_aload_n hx hb dX0_putStaticHead_10 rfl (lv_at hl 0 rfl) ?_
  refine lv_iconst (v := (0 : Int32)) hx hb dX0_putStaticHead_11 (by decide) ?_
  obtain ⟨u3, hu3, h⟩ := bnd_some h
  have hPc := hP.sub (ws' := (wdX0_put G a_t a_t_row a_t_request u2.1 t_requestLength t_faults t_withBinaries t_withAnalogs t_withEvents u2.2)) [0, 1] rfl
  have hDc := hD.sub (ws' := (wdX0_put G a_t a_t_row a_t_request u2.1 t_requestLength t_faults t_withBinaries t_withAnalogs t_withEvents u2.2)) [0, 1] (by decide) rfl
  refine g_v (wc := (wdX0_put G a_t a_t_row a_t_request u2.1 t_requestLength t_faults t_withBinaries t_withAnalogs t_withEvents u2.2)) (w1 := (wdX0_put G a_t a_t_row a_t_request u3.1 t_requestLength t_faults t_withBinaries t_withAnalogs t_withEvents u3.2)) (w2 := (wdX0_putStaticHead G a_t a_t_row a_t_request u3.1 t_requestLength t_faults t_withBinaries t_withAnalogs t_withEvents u3.2)) (va_runV (As := [.int (0 : Int32)]) (rest := []) ⟨hx, hb, hml, hown, hts⟩ (mX0_put l G a_t a_t_row a_t_request t_requestLength t_faults t_withBinaries t_withAnalogs t_withEvents (0 : Int32) u2.1 u2.2 H.size u3 hu3) ⟨(callB_of 1 hts (bgIn kw619) rfl rfl rfl (hB _ kw50) (hB _ kw616) hdX0_put ⟨(Nat.le_of_ble_eq_true rfl), (Nat.le_of_ble_eq_true rfl)⟩), hB _ kw617, hB _ kw618⟩ (gPreV (ci := 0) (qr := 0) hK hPc hDc rfl rfl rfl) rfl rfl hl.1 rfl (lv_room (Nat.le_of_ble_eq_true rfl)) dX0_putStaticHead_12 ⟨(Nat.le_of_ble_eq_true rfl), (Nat.le_of_ble_eq_true rfl)⟩) hP hD hS hA [0, 1] rfl rfl [.inr 0, .inr 1] rfl rfl (fun H locs hP hD hS => ?_)
  refine lv_aload_n hx hb dX0_putStaticHead_15 rfl (lv_at hl 0 rfl) ?_
  refine lv_iconst (v := (0 : Int32)) hx hb dX0_putStaticHead_16 (by decide) ?_
  obtain ⟨u4, hu4, h⟩ := bnd_some h
  have hPc := hP.sub (ws' := (wdX0_put G a_t a_t_row a_t_request u3.1 t_requestLength t_faults t_withBinaries t_withAnalogs t_withEvents u3.2)) [0, 1] rfl
  have hDc := hD.sub (ws' := (wdX0_put G a_t a_t_row a_t_request u3.1 t_requestLength t_faults t_withBinaries t_withAnalogs t_withEvents u3.2)) [0, 1] (by decide) rfl
  refine g_v (wc := (wdX0_put G a_t a_t_row a_t_request u3.1 t_requestLength t_faults t_withBinaries t_withAnalogs t_withEvents u3.2)) (w1 := (wdX0_put G a_t a_t_row a_t_request u4.1 t_requestLength t_faults t_withBinaries t_withAnalogs t_withEvents u4.2)) (w2 := (wdX0_putStaticHead G a_t a_t_row a_t_request u4.1 t_requestLength t_faults t_withBinaries t_withAnalogs t_withEvents u4.2)) (va_runV (As := [.int (0 : Int32)]) (rest := []) ⟨hx, hb, hml, hown, hts⟩ (mX0_put l G a_t a_t_row a_t_request t_requestLength t_faults t_withBinaries t_withAnalogs t_withEvents (0 : Int32) u3.1 u3.2 H.size u4 hu4) ⟨(callB_of 1 hts (bgIn kw619) rfl rfl rfl (hB _ kw50) (hB _ kw616) hdX0_put ⟨(Nat.le_of_ble_eq_true rfl), (Nat.le_of_ble_eq_true rfl)⟩), hB _ kw617, hB _ kw618⟩ (gPreV (ci := 0) (qr := 0) hK hPc hDc rfl rfl rfl) rfl rfl hl.1 rfl (lv_room (Nat.le_of_ble_eq_true rfl)) dX0_putStaticHead_17 ⟨(Nat.le_of_ble_eq_true rfl), (Nat.le_of_ble_eq_true rfl)⟩) hP hD hS hA [0, 1] rfl rfl [.inr 0, .inr 1] rfl rfl (fun H locs hP hD hS => ?_)
  refine lv_aload_n hx hb dX0_putStaticHead_20 rfl (lv_at hl 0 rfl) ?_
  refine lv_bipush (v := (15 : Int32)) hx hb dX0_putStaticHead_21 (by decide) ?_
  obtain ⟨u5, hu5, h⟩ := bnd_some h
  have hPc := hP.sub (ws' := (wdX0_put G a_t a_t_row a_t_request u4.1 t_requestLength t_faults t_withBinaries t_withAnalogs t_withEvents u4.2)) [0, 1] rfl
  have hDc := hD.sub (ws' := (wdX0_put G a_t a_t_row a_t_request u4.1 t_requestLength t_faults t_withBinaries t_withAnalogs t_withEvents u4.2)) [0, 1] (by decide) rfl
  refine g_v (wc := (wdX0_put G a_t a_t_row a_t_request u4.1 t_requestLength t_faults t_withBinaries t_withAnalogs t_withEvents u4.2)) (w1 := (wdX0_put G a_t a_t_row a_t_request u5.1 t_requestLength t_faults t_withBinaries t_withAnalogs t_withEvents u5.2)) (w2 := (wdX0_putStaticHead G a_t a_t_row a_t_request u5.1 t_requestLength t_faults t_withBinaries t_withAnalogs t_withEvents u5.2)) (va_runV (As := [.int (15 : Int32)]) (rest := []) ⟨hx, hb, hml, hown, hts⟩ (mX0_put l G a_t a_t_row a_t_request t_requestLength t_faults t_withBinaries t_withAnalogs t_withEvents (15 : Int32) u4.1 u4.2 H.size u5 hu5) ⟨(callB_of 1 hts (bgIn kw619) rfl rfl rfl (hB _ kw50) (hB _ kw616) hdX0_put ⟨(Nat.le_of_ble_eq_true rfl), (Nat.le_of_ble_eq_true rfl)⟩), hB _ kw617, hB _ kw618⟩ (gPreV (ci := 0) (qr := 0) hK hPc hDc rfl rfl rfl) rfl rfl hl.1 rfl (lv_room (Nat.le_of_ble_eq_true rfl)) dX0_putStaticHead_23 ⟨(Nat.le_of_ble_eq_true rfl), (Nat.le_of_ble_eq_true rfl)⟩) hP hD hS hA [0, 1] rfl rfl [.inr 0, .inr 1] rfl rfl (fun H locs hP hD hS => ?_)
  obtain rfl := Option.some.inj h
  exact W.vret hx hb hr (fun t ht hW => ⟨⟨(), rfl, trivial, by rw [ht]; exact hP, hD⟩, hS.F ht⟩) hS.2.2 dX0_putStaticHead_26
set_option maxHeartbeats 4000000 in
set_option maxRecDepth 100000 in
theorem mX0_putStaticHead (l : Launch) (G : GT) (a_t : Nat) (a_t_row : Nat) (a_t_request : Nat) (t_requestLength : Int32) (t_faults : Int32) (t_withBinaries : Int32) (t_withAnalogs : Int32) (t_withEvents : Int32) (x1 : Int32) (t_length : Int32) (t_row : Nat → Int32) (sz : Nat) (out : Int32 × (Nat → Int32)) (h : fX0_putStaticHead x1 t_length t_row = some out) : Met l yX0_putStaticHead wsX0_putStaticHead rmX0_putStaticHead (gPc G [.ref a_t, .int x1] sz (wdX0_putStaticHead G a_t a_t_row a_t_request t_length t_requestLength t_faults t_withBinaries t_withAnalogs t_withEvents t_row)) (gQv G (va_A (wdX0_putStaticHead G a_t a_t_row a_t_request t_length t_requestLength t_faults t_withBinaries t_withAnalogs t_withEvents t_row) sz) (wdX0_putStaticHead G a_t a_t_row a_t_request out.1 t_requestLength t_faults t_withBinaries t_withAnalogs t_withEvents out.2)) 0 0 (va_A (wdX0_putStaticHead G a_t a_t_row a_t_request t_length t_requestLength t_faults t_withBinaries t_withAnalogs t_withEvents t_row) sz) := by
  refine Met.ofW (cc := cX0_putStaticHead) (maxL := 2) (ret := none) (by decide) rfl ?_
  intro p e s m args below meth c s₁ B hml hv
  obtain ⟨rfl, hsz, hP, hK, hD0⟩ := hv
  have hts := atoms_spec (ws := wsX0_putStaticHead) B.pre
  have hown : s.vm.findClass "OutStation$Answer" = some m.cls := findClass_of_methodNamed B.named
  subst hsz
  have hD := hD0.self (sz := s.heap.size)
  generalize hAe : va_A (wdX0_putStaticHead G a_t a_t_row a_t_request t_length t_requestLength t_faults t_withBinaries t_withAnalogs t_withEvents t_row) s.heap.size = A at hD ⊢
  have hA : ∀ q : Nat, s.heap.size ≤ q → A q := fun q h => by rw [← hAe]; exact Or.inr h
  have hS : va_S A s.heap s.heap [] := va_S.rf
  have hl := lv_entry ([.ref a_t, .int x1]) (n := 2) (Nat.le_of_ble_eq_true rfl)
  rw [lg_entry_eq]
  generalize (lg_sl ([.ref a_t, .int x1]) ++ List.replicate (2 - (lg_sl ([.ref a_t, .int x1])).length) Slot.unset).toArray = ls at hl ⊢
  exact wX0_putStaticHead_E ⟨B.exec, B.bytes, B.returns, hml, hown, hts, B.notSynchronized, hA, hK⟩ x1 t_length t_row _ _ _ h hP hD hS hl
/-! ### OutStation$Answer.binaryByte (I)I -/
abbrev wdX0_binaryByte (G : GT) : va_W := []
abbrev wsX0_binaryByte : List Cond := .code yX0_binaryByte cX0_binaryByte 1 (some .int) :: BG
abbrev rmX0_binaryByte : Room := { frames := 0, cells := 0, slots := 0, locals := 0 }
noncomputable def fX0_binaryByte_L11 (s0 : Int32) : Option (Int32) := some (s0)
set_option maxHeartbeats 4000000 in
set_option maxRecDepth 100000 in
theorem wX0_binaryByte_L11 {p : Program} {l : Launch} {e : Env} {s : State} {m : MethodId} {args : Array Value} {below : List Frame} {meth : Method} {c : Code} {G : GT} {A : Nat → Prop} (C : cxt p s m args meth c cX0_binaryByte (some .int) 1 "OutStation$Answer" wsX0_binaryByte G A) {out : Int32} : ∀ (s0 : Int32) (H : Heap) (locs : List Loc) (ls : Array Slot), fX0_binaryByte_L11 s0 = some out → va_P G.1 vwCl (wdX0_binaryByte G) H → va_D A (wdX0_binaryByte G) → va_S A s.heap H locs → lv_has ls 1 [] → W p l e rmX0_binaryByte s m args below meth c H locs 0 0 (MQ below (gQi G A out (wdX0_binaryByte G)) args s 0 0 A) (F0 m 11 ls [.int s0]) := by
  obtain ⟨hx, hb, hr, hml, hown, hts, hlocks, hA, hK⟩ := id C
  have hB : ∀ w ∈ BG, w.before args s = true := fun w h => hts w (List.mem_cons_of_mem _ h)
  intro s0 H locs ls h hP hD hS hl
  unfold fX0_binaryByte_L11 at h
  obtain rfl := Option.some.inj h
  exact W.iret (v := s0) hx hb hr (fun t ht hW => ⟨⟨_, (), rfl, rfl, by rw [ht]; exact hP, hD⟩, hS.F ht⟩) hS.2.2 dX0_binaryByte_11
noncomputable def fX0_binaryByte (x0 : Int32) : Option (Int32) := brc (x0 = 0) (fX0_binaryByte_L11 (1 : Int32)) (fX0_binaryByte_L11 (129 : Int32))
set_option maxHeartbeats 4000000 in
set_option maxRecDepth 100000 in
theorem wX0_binaryByte_E {p : Program} {l : Launch} {e : Env} {s : State} {m : MethodId} {args : Array Value} {below : List Frame} {meth : Method} {c : Code} {G : GT} {A : Nat → Prop} (C : cxt p s m args meth c cX0_binaryByte (some .int) 1 "OutStation$Answer" wsX0_binaryByte G A) {out : Int32} : ∀ (x0 : Int32) (H : Heap) (locs : List Loc) (ls : Array Slot), fX0_binaryByte x0 = some out → va_P G.1 vwCl (wdX0_binaryByte G) H → va_D A (wdX0_binaryByte G) → va_S A s.heap H locs → lv_has ls 1 [(0, .int x0)] → W p l e rmX0_binaryByte s m args below meth c H locs 0 0 (MQ below (gQi G A out (wdX0_binaryByte G)) args s 0 0 A) (F0 m 0 ls []) := by
  obtain ⟨hx, hb, hr, hml, hown, hts, hlocks, hA, hK⟩ := id C
  have hB : ∀ w ∈ BG, w.before args s = true := fun w h => hts w (List.mem_cons_of_mem _ h)
  intro x0 H locs ls h hP hD hS hl
  unfold fX0_binaryByte at h
  refine lv_iload_n hx hb dX0_binaryByte_0 rfl (lv_at hl 0 rfl) ?_
  refine lv_if_ne (tgt := 8) hx hb dX0_binaryByte_1 (by decide) (fun hc1 => ?_) (fun hc1 => ?_)
  · have h := brc_ff h hc1
    refine lv_sipush (v := (129 : Int32)) hx hb dX0_binaryByte_8 (by decide) ?_
    exact wX0_binaryByte_L11 C (129 : Int32) _ _ _ h hP hD hS (lv_sub hl [] rfl)
  · have h := brc_tt h hc1
    refine lv_iconst (v := (1 : Int32)) hx hb dX0_binaryByte_4 (by decide) ?_
    refine lv_goto (tgt := 11) hx hb dX0_binaryByte_5 (by decide) ?_
    exact wX0_binaryByte_L11 C (1 : Int32) _ _ _ h hP hD hS (lv_sub hl [] rfl)
set_option maxHeartbeats 4000000 in
set_option maxRecDepth 100000 in
theorem mX0_binaryByte (l : Launch) (G : GT) (x0 : Int32) (sz : Nat) (out : Int32) (h : fX0_binaryByte x0 = some out) : Met l yX0_binaryByte wsX0_binaryByte rmX0_binaryByte (gPc G [.int x0] sz (wdX0_binaryByte G)) (gQi G (va_A (wdX0_binaryByte G) sz) out (wdX0_binaryByte G)) 0 0 (va_A (wdX0_binaryByte G) sz) := by
  refine Met.ofW (cc := cX0_binaryByte) (maxL := 1) (ret := (some .int)) (by decide) rfl ?_
  intro p e s m args below meth c s₁ B hml hv
  obtain ⟨rfl, hsz, hP, hK, hD0⟩ := hv
  have hts := atoms_spec (ws := wsX0_binaryByte) B.pre
  have hown : s.vm.findClass "OutStation$Answer" = some m.cls := findClass_of_methodNamed B.named
  subst hsz
  have hD := hD0.self (sz := s.heap.size)
  generalize hAe : va_A (wdX0_binaryByte G) s.heap.size = A at hD ⊢
  have hA : ∀ q : Nat, s.heap.size ≤ q → A q := fun q h => by rw [← hAe]; exact Or.inr h
  have hS : va_S A s.heap s.heap [] := va_S.rf
  have hl := lv_entry ([.int x0]) (n := 1) (Nat.le_of_ble_eq_true rfl)
  rw [lg_entry_eq]
  generalize (lg_sl ([.int x0]) ++ List.replicate (1 - (lg_sl ([.int x0])).length) Slot.unset).toArray = ls at hl ⊢
  exact wX0_binaryByte_E ⟨B.exec, B.bytes, B.returns, hml, hown, hts, B.notSynchronized, hA, hK⟩ x0 _ _ _ h hP hD hS hl
/-! ### OutStation$Answer.putBinaries (LOutStation$Points;)V -/
abbrev wdX0_putBinaries (G : GT) (a_t : Nat) (a_t_row : Nat) (a_p1 : Nat) (a_p1_on : Nat) (a_t_request : Nat) (a_p1_values : Nat) (a_p1_reported : Nat) (a_p1_bands : Nat) (a_p1_binaryClasses : Nat) (a_p1_analogClasses : Nat) (t_length : Int32) (t_requestLength : Int32) (t_faults : Int32) (t_withBinaries : Int32) (t_withAnalogs : Int32) (t_withEvents : Int32) (t_row : Nat → Int32) (p1_on : Nat → Int32) : va_W := [(a_t, .inr (0, [.ref a_t_row, .int t_length, .ref a_t_request, .int t_requestLength, .int t_faults, .int t_withBinaries, .int t_withAnalogs, .int t_withEvents])), (a_t_row, .inl (G.2.1, 250, .inl t_row)), (a_p1, .inr (7, [.ref a_p1_on, .ref a_p1_values, .ref a_p1_reported, .ref a_p1_bands, .ref a_p1_binaryClasses, .ref a_p1_analogClasses])), (a_p1_on, .inl (G.2.2.1, 16, .inl p1_on))]
abbrev wsX0_putBinaries : List Cond := .code yX0_putBinaries cX0_putBinaries 3 none :: BG
abbrev rmX0_putBinaries : Room := { frames := 2, cells := 0, slots := 0, locals := 42 }
noncomputable def fX0_putBinaries_L16 (p1_on : Nat → Int32) (t_length : Int32) (t_withBinaries : Int32) (t_row : Nat → Int32) : Option (Int32 × Int32 × (Nat → Int32)) := some (t_length, t_withBinaries, t_row)
set_option maxHeartbeats 4000000 in
set_option maxRecDepth 100000 in
theorem wX0_putBinaries_L16 {p : Program} {l : Launch} {e : Env} {s : State} {m : MethodId} {args : Array Value} {below : List Frame} {meth : Method} {c : Code} {G : GT} {A : Nat → Prop} (C : cxt p s m args meth c cX0_putBinaries none 3 "OutStation$Answer" wsX0_putBinaries G A) {a_t : Nat} {a_t_row : Nat} {a_p1 : Nat} {a_p1_on : Nat} {a_t_request : Nat} {a_p1_values : Nat} {a_p1_reported : Nat} {a_p1_bands : Nat} {a_p1_binaryClasses : Nat} {a_p1_analogClasses : Nat} {t_requestLength : Int32} {t_faults : Int32} {t_withAnalogs : Int32} {t_withEvents : Int32} {p1_on : Nat → Int32} {out : Int32 × Int32 × (Nat → Int32)} : ∀ (t_length : Int32) (t_withBinaries : Int32) (t_row : Nat → Int32) (H : Heap) (locs : List Loc) (ls : Array Slot), fX0_putBinaries_L16 p1_on t_length t_withBinaries t_row = some out → va_P G.1 vwCl (wdX0_putBinaries G a_t a_t_row a_p1 a_p1_on a_t_request a_p1_values a_p1_reported a_p1_bands a_p1_binaryClasses a_p1_analogClasses t_length t_requestLength t_faults t_withBinaries t_withAnalogs t_withEvents t_row p1_on) H → va_D A (wdX0_putBinaries G a_t a_t_row a_p1 a_p1_on a_t_request a_p1_values a_p1_reported a_p1_bands a_p1_binaryClasses a_p1_analogClasses t_length t_requestLength t_faults t_withBinaries t_withAnalogs t_withEvents t_row p1_on) → va_S A s.heap H locs → lv_has ls 3 [] → W p l e rmX0_putBinaries s m args below meth c H locs 0 0 (MQ below (gQv G A (wdX0_putBinaries G a_t a_t_row a_p1 a_p1_on a_t_request a_p1_values a_p1_reported a_p1_bands a_p1_binaryClasses a_p1_analogClasses out.1 t_requestLength t_faults out.2.1 t_withAnalogs t_withEvents out.2.2 p1_on)) args s 0 0 A) (F0 m 16 ls []) := by
  obtain ⟨hx, hb, hr, hml, hown, hts, hlocks, hA, hK⟩ := id C
  have hB : ∀ w ∈ BG, w.before args s = true := fun w h => hts w (List.mem_cons_of_mem _ h)
  intro t_length t_withBinaries t_row H locs ls h hP hD hS hl
  unfold fX0_putBinaries_L16 at h
  obtain rfl := Option.some.inj h
  exact W.vret hx hb hr (fun t ht hW => ⟨⟨(), rfl, trivial, by rw [ht]; exact hP, hD⟩, hS.F ht⟩) hS.2.2 dX0_putBinaries_16
noncomputable def fX0_putBinaries_L49 (p1_on : Nat → Int32) (k_L29 : Int32 → Int32 → Int32 → (Nat → Int32) → Option (Int32 × Int32 × (Nat → Int32))) (x2 : Int32) (s0 : Int32) (t_length : Int32) (t_withBinaries : Int32) (t_row : Nat → Int32) : Option (Int32 × Int32 × (Nat → Int32)) := bnd (fX0_binaryByte s0) (fun u1 => bnd (fX0_put u1 t_length t_row) (fun u2 => k_L29 (x2 + (1 : Int32)) u2.1 t_withBinaries u2.2))
set_option maxHeartbeats 4000000 in
set_option maxRecDepth 100000 in
theorem wX0_putBinaries_L49 {p : Program} {l : Launch} {e : Env} {s : State} {m : MethodId} {args : Array Value} {below : List Frame} {meth : Method} {c : Code} {G : GT} {A : Nat → Prop} (C : cxt p s m args meth c cX0_putBinaries none 3 "OutStation$Answer" wsX0_putBinaries G A) {a_t : Nat} {a_t_row : Nat} {a_p1 : Nat} {a_p1_on : Nat} {a_t_request : Nat} {a_p1_values : Nat} {a_p1_reported : Nat} {a_p1_bands : Nat} {a_p1_binaryClasses : Nat} {a_p1_analogClasses : Nat} {t_requestLength : Int32} {t_faults : Int32} {t_withAnalogs : Int32} {t_withEvents : Int32} {p1_on : Nat → Int32} {k_L29 : Int32 → Int32 → Int32 → (Nat → Int32) → Option (Int32 × Int32 × (Nat → Int32))} {out : Int32 × Int32 × (Nat → Int32)} (hk_L29 : ∀ (x2 : Int32) (t_length : Int32) (t_withBinaries : Int32) (t_row : Nat → Int32) (H : Heap) (locs : List Loc) (ls : Array Slot), k_L29 x2 t_length t_withBinaries t_row = some out → va_P G.1 vwCl (wdX0_putBinaries G a_t a_t_row a_p1 a_p1_on a_t_request a_p1_values a_p1_reported a_p1_bands a_p1_binaryClasses a_p1_analogClasses t_length t_requestLength t_faults t_withBinaries t_withAnalogs t_withEvents t_row p1_on) H → va_D A (wdX0_putBinaries G a_t a_t_row a_p1 a_p1_on a_t_request a_p1_values a_p1_reported a_p1_bands a_p1_binaryClasses a_p1_analogClasses t_length t_requestLength t_faults t_withBinaries t_withAnalogs t_withEvents t_row p1_on) → va_S A s.heap H locs → lv_has ls 3 [(0, .ref a_t), (1, .ref a_p1), (2, .int x2)] → W p l e rmX0_putBinaries s m args below meth c H locs 0 0 (MQ below (gQv G A (wdX0_putBinaries G a_t a_t_row a_p1 a_p1_on a_t_request a_p1_values a_p1_reported a_p1_bands a_p1_binaryClasses a_p1_analogClasses out.1 t_requestLength t_faults out.2.1 t_withAnalogs t_withEvents out.2.2 p1_on)) args s 0 0 A) (F0 m 29 ls [])) : ∀ (x2 : Int32) (s0 : Int32) (t_length : Int32) (t_withBinaries : Int32) (t_row : Nat → Int32) (H : Heap) (locs : List Loc) (ls : Array Slot), fX0_putBinaries_L49 p1_on k_L29 x2 s0 t_length t_withBinaries t_row = some out → va_P G.1 vwCl (wdX0_putBinaries G a_t a_t_row a_p1 a_p1_on a_t_request a_p1_values a_p1_reported a_p1_bands a_p1_binaryClasses a_p1_analogClasses t_length t_requestLength t_faults t_withBinaries t_withAnalogs t_withEvents t_row p1_on) H → va_D A (wdX0_putBinaries G a_t a_t_row a_p1 a_p1_on a_t_request a_p1_values a_p1_reported a_p1_bands a_p1_binaryClasses a_p1_analogClasses t_length t_requestLength t_faults t_withBinaries t_withAnalogs t_withEvents t_row p1_on) → va_S A s.heap H locs → lv_has ls 3 [(0, .ref a_t), (1, .ref a_p1), (2, .int x2)] → W p l e rmX0_putBinaries s m args below meth c H locs 0 0 (MQ below (gQv G A (wdX0_putBinaries G a_t a_t_row a_p1 a_p1_on a_t_request a_p1_values a_p1_reported a_p1_bands a_p1_binaryClasses a_p1_analogClasses out.1 t_requestLength t_faults out.2.1 t_withAnalogs t_withEvents out.2.2 p1_on)) args s 0 0 A) (F0 m 49 ls [.int s0, .ref a_t]) := by
  obtain ⟨hx, hb, hr, hml, hown, hts, hlocks, hA, hK⟩ := id C
  have hB : ∀ w ∈ BG, w.before args s = true := fun w h => hts w (List.mem_cons_of_mem _ h)
  intro x2 s0 t_length t_withBinaries t_row H locs ls h hP hD hS hl
  unfold fX0_putBinaries_L49 at h
  obtain ⟨u1, hu1, h⟩ := bnd_some h
  have hPc := hP.sub (ws' := (wdX0_binaryByte G)) [] rfl
  have hDc := hD.sub (ws' := (wdX0_binaryByte G)) [] (by decide) rfl
  refine g_i (wc := (wdX0_binaryByte G)) (w1 := (wdX0_binaryByte G)) (w2 := (wdX0_putBinaries G a_t a_t_row a_p1 a_p1_on a_t_request a_p1_values a_p1_reported a_p1_bands a_p1_binaryClasses a_p1_analogClasses t_length t_requestLength t_faults t_withBinaries t_withAnalogs t_withEvents t_row p1_on)) (va_runS (As := [.int s0]) (rest := [.ref a_t]) ⟨hx, hb, hml, hown, hts⟩ (mX0_binaryByte l G s0 H.size u1 hu1) ⟨(callB_of 1 hts (bgIn kw626) rfl rfl rfl (hB _ kw50) (hB _ kw624) hdX0_binaryByte ⟨(Nat.le_of_ble_eq_true rfl), (Nat.le_of_ble_eq_true rfl)⟩), hB _ kw625⟩ (gPreS hK hPc hDc) rfl rfl hl.1 rfl (lv_room (Nat.le_of_ble_eq_true rfl)) dX0_putBinaries_49 ⟨(Nat.le_of_ble_eq_true rfl), (Nat.le_of_ble_eq_true rfl)⟩) hP hD hS hA [] rfl rfl [.inl 0, .inl 1, .inl 2, .inl 3] rfl rfl (fun H locs hP hD hS => ?_)
  obtain ⟨u2, hu2, h⟩ := bnd_some h
  have hPc := hP.sub (ws' := (wdX0_put G a_t a_t_row a_t_request t_length t_requestLength t_faults t_withBinaries t_withAnalogs t_withEvents t_row)) [0, 1] rfl
  have hDc := hD.sub (ws' := (wdX0_put G a_t a_t_row a_t_request t_length t_requestLength t_faults t_withBinaries t_withAnalogs t_withEvents t_row)) [0, 1] (by decide) rfl
  refine g_v (wc := (wdX0_put G a_t a_t_row a_t_request t_length t_requestLength t_faults t_withBinaries t_withAnalogs t_withEvents t_row)) (w1 := (wdX0_put G a_t a_t_row a_t_request u2.1 t_requestLength t_faults t_withBinaries t_withAnalogs t_withEvents u2.2)) (w2 := (wdX0_putBinaries G a_t a_t_row a_p1 a_p1_on a_t_request a_p1_values a_p1_reported a_p1_bands a_p1_binaryClasses a_p1_analogClasses u2.1 t_requestLength t_faults t_withBinaries t_withAnalogs t_withEvents u2.2 p1_on)) (va_runV (As := [.int u1]) (rest := []) ⟨hx, hb, hml, hown, hts⟩ (mX0_put l G a_t a_t_row a_t_request t_requestLength t_faults t_withBinaries t_withAnalogs t_withEvents u1 t_length t_row H.size u2 hu2) ⟨(callB_of 1 hts (bgIn kw619) rfl rfl rfl (hB _ kw50) (hB _ kw616) hdX0_put ⟨(Nat.le_of_ble_eq_true rfl), (Nat.le_of_ble_eq_true rfl)⟩), hB _ kw617, hB _ kw618⟩ (gPreV (ci := 0) (qr := 0) hK hPc hDc rfl rfl rfl) rfl rfl hl.1 rfl (lv_room (Nat.le_of_ble_eq_true rfl)) dX0_putBinaries_52 ⟨(Nat.le_of_ble_eq_true rfl), (Nat.le_of_ble_eq_true rfl)⟩) hP hD hS hA [0, 1] rfl rfl [.inr 0, .inr 1, .inl 2, .inl 3] rfl rfl (fun H locs hP hD hS => ?_)
  refine lv_iinc (v := (x2 + (1 : Int32))) (lv' := [(2, .int (x2 + (1 : Int32))), (0, .ref a_t), (1, .ref a_p1)]) hx hb dX0_putBinaries_55 hl (k := 2) rfl rfl (by decide) rfl (fun ls hl => ?_)
  refine lv_goto (tgt := 29) hx hb dX0_putBinaries_58 (by decide) ?_
  exact hk_L29 (x2 + (1 : Int32)) u2.1 t_withBinaries u2.2 _ _ _ h hP hD hS (lv_sub hl [1, 2, 0] rfl)
noncomputable def fX0_putBinaries_L29 (p1_on : Nat → Int32) (n : Nat) : Int32 → Int32 → Int32 → (Nat → Int32) → Option (Int32 × Int32 × (Nat → Int32)) := Nat.rec (motive := fun _ => Int32 → Int32 → Int32 → (Nat → Int32) → Option (Int32 × Int32 × (Nat → Int32))) (fun _ _ _ _ => none) (fun _ k_L29 x2 t_length t_withBinaries t_row => brc ((16 : Int32) ≤ x2) (some (t_length, t_withBinaries, t_row)) (bnd (fX7_isOn p1_on x2) (fun u1 => brc (u1 = 0) (fX0_putBinaries_L49 p1_on k_L29 x2 (0 : Int32) t_length t_withBinaries t_row) (fX0_putBinaries_L49 p1_on k_L29 x2 (1 : Int32) t_length t_withBinaries t_row)))) n
set_option maxHeartbeats 4000000 in
set_option maxRecDepth 100000 in
theorem wX0_putBinaries_L29 {p : Program} {l : Launch} {e : Env} {s : State} {m : MethodId} {args : Array Value} {below : List Frame} {meth : Method} {c : Code} {G : GT} {A : Nat → Prop} (C : cxt p s m args meth c cX0_putBinaries none 3 "OutStation$Answer" wsX0_putBinaries G A) {a_t : Nat} {a_t_row : Nat} {a_p1 : Nat} {a_p1_on : Nat} {a_t_request : Nat} {a_p1_values : Nat} {a_p1_reported : Nat} {a_p1_bands : Nat} {a_p1_binaryClasses : Nat} {a_p1_analogClasses : Nat} {t_requestLength : Int32} {t_faults : Int32} {t_withAnalogs : Int32} {t_withEvents : Int32} {p1_on : Nat → Int32} {out : Int32 × Int32 × (Nat → Int32)} : ∀ (n : Nat) (x2 : Int32) (t_length : Int32) (t_withBinaries : Int32) (t_row : Nat → Int32) (H : Heap) (locs : List Loc) (ls : Array Slot), fX0_putBinaries_L29 p1_on n x2 t_length t_withBinaries t_row = some out → va_P G.1 vwCl (wdX0_putBinaries G a_t a_t_row a_p1 a_p1_on a_t_request a_p1_values a_p1_reported a_p1_bands a_p1_binaryClasses a_p1_analogClasses t_length t_requestLength t_faults t_withBinaries t_withAnalogs t_withEvents t_row p1_on) H → va_D A (wdX0_putBinaries G a_t a_t_row a_p1 a_p1_on a_t_request a_p1_values a_p1_reported a_p1_bands a_p1_binaryClasses a_p1_analogClasses t_length t_requestLength t_faults t_withBinaries t_withAnalogs t_withEvents t_row p1_on) → va_S A s.heap H locs → lv_has ls 3 [(0, .ref a_t), (1, .ref a_p1), (2, .int x2)] → W p l e rmX0_putBinaries s m args below meth c H locs 0 0 (MQ below (gQv G A (wdX0_putBinaries G a_t a_t_row a_p1 a_p1_on a_t_request a_p1_values a_p1_reported a_p1_bands a_p1_binaryClasses a_p1_analogClasses out.1 t_requestLength t_faults out.2.1 t_withAnalogs t_withEvents out.2.2 p1_on)) args s 0 0 A) (F0 m 29 ls []) := by
  obtain ⟨hx, hb, hr, hml, hown, hts, hlocks, hA, hK⟩ := id C
  have hB : ∀ w ∈ BG, w.before args s = true := fun w h => hts w (List.mem_cons_of_mem _ h)
  intro n
  induction n with
  | zero =>
    intro x2 t_length t_withBinaries t_row H locs ls h hP hD hS hl
    cases h
  | succ n ih =>
    intro x2 t_length t_withBinaries t_row H locs ls h hP hD hS hl
    replace h : brc ((16 : Int32) ≤ x2) (some (t_length, t_withBinaries, t_row)) (bnd (fX7_isOn p1_on x2) (fun u1 => brc (u1 = 0) (fX0_putBinaries_L49 p1_on (fX0_putBinaries_L29 p1_on n) x2 (0 : Int32) t_length t_withBinaries t_row) (fX0_putBinaries_L49 p1_on (fX0_putBinaries_L29 p1_on n) x2 (1 : Int32) t_length t_withBinaries t_row))) = some out := h
    refine lv_iload_n hx hb dX0_putBinaries_29 rfl (lv_at hl 2 rfl) ?_
    refine lv_bipush (v := (16 : Int32)) hx hb dX0_putBinaries_30 (by decide) ?_
    refine lv_icmp_ge (tgt := 61) hx hb dX0_putBinaries_32 (by decide) (fun hc32 => ?_) (fun hc32 => ?_)
    · have h := brc_tt h hc32
      obtain rfl := Option.some.inj h
      exact W.vret hx hb hr (fun t ht hW => ⟨⟨(), rfl, trivial, by rw [ht]; exact hP, hD⟩, hS.F ht⟩) hS.2.2 dX0_putBinaries_61
    · have h := brc_ff h hc32
      refine lv_aload_n hx hb dX0_putBinaries_35 rfl (lv_at hl 0 rfl) ?_
      refine lv_aload_n hx hb dX0_putBinaries_36 rfl (lv_at hl 1 rfl) ?_
      refine lv_iload_n hx hb dX0_putBinaries_37 rfl (lv_at hl 2 rfl) ?_
      obtain ⟨u1, hu1, h⟩ := bnd_some h
      have hPc := hP.sub (ws' := (wdX7_isOn G a_p1 a_p1_on a_p1_values a_p1_reported a_p1_bands a_p1_binaryClasses a_p1_analogClasses p1_on)) [2, 3] rfl
      have hDc := hD.sub (ws' := (wdX7_isOn G a_p1 a_p1_on a_p1_values a_p1_reported a_p1_bands a_p1_binaryClasses a_p1_analogClasses p1_on)) [2, 3] (by decide) rfl
      refine g_i (wc := (wdX7_isOn G a_p1 a_p1_on a_p1_values a_p1_reported a_p1_bands a_p1_binaryClasses a_p1_analogClasses p1_on)) (w1 := (wdX7_isOn G a_p1 a_p1_on a_p1_values a_p1_reported a_p1_bands a_p1_binaryClasses a_p1_analogClasses p1_on)) (w2 := (wdX0_putBinaries G a_t a_t_row a_p1 a_p1_on a_t_request a_p1_values a_p1_reported a_p1_bands a_p1_binaryClasses a_p1_analogClasses t_length t_requestLength t_faults t_withBinaries t_withAnalogs t_withEvents t_row p1_on)) (va_runV (As := [.int x2]) (rest := [.ref a_t]) ⟨hx, hb, hml, hown, hts⟩ (mX7_isOn l G a_p1 a_p1_on a_p1_values a_p1_reported a_p1_bands a_p1_binaryClasses a_p1_analogClasses p1_on x2 H.size u1 hu1) ⟨(callB_of 1 hts (bgIn kw623) rfl rfl rfl (hB _ kw52) (hB _ kw620) hdX7_isOn ⟨(Nat.le_of_ble_eq_true rfl), (Nat.le_of_ble_eq_true rfl)⟩), hB _ kw621, hB _ kw622⟩ (gPreV (ci := 7) (qr := 0) hK hPc hDc rfl rfl rfl) rfl rfl hl.1 rfl (lv_room (Nat.le_of_ble_eq_true rfl)) dX0_putBinaries_38 ⟨(Nat.le_of_ble_eq_true rfl), (Nat.le_of_ble_eq_true rfl)⟩) hP hD hS hA [2, 3] rfl rfl [.inl 0, .inl 1, .inr 0, .inr 1] rfl rfl (fun H locs hP hD hS => ?_)
      refine lv_if_eq (tgt := 48) hx hb dX0_putBinaries_41 (by decide) (fun hc41 => ?_) (fun hc41 => ?_)
      · have h := brc_tt h hc41
        refine lv_iconst (v := (0 : Int32)) hx hb dX0_putBinaries_48 (by decide) ?_
        exact wX0_putBinaries_L49 C ih x2 (0 : Int32) t_length t_withBinaries t_row _ _ _ h hP hD hS (lv_sub hl [0, 1, 2] rfl)
      · have h := brc_ff h hc41
        refine lv_iconst (v := (1 : Int32)) hx hb dX0_putBinaries_44 (by decide) ?_
        refine lv_goto (tgt := 49) hx hb dX0_putBinaries_45 (by decide) ?_
        exact wX0_putBinaries_L49 C ih x2 (1 : Int32) t_length t_withBinaries t_row _ _ _ h hP hD hS (lv_sub hl [0, 1, 2] rfl)
noncomputable def fX0_putBinaries (p1_on : Nat → Int32) (t_length : Int32) (t_withBinaries : Int32) (t_row : Nat → Int32) : Option (Int32 × Int32 × (Nat → Int32)) := brc (t_withBinaries = 0) (bnd (fX0_hasRoom t_length (21 : Int32)) (fun u1 => brc (u1 = 0) (fX0_putBinaries_L16 p1_on t_length t_withBinaries t_row) (bnd (fX0_putStaticHead (1 : Int32) t_length t_row) (fun u2 => fX0_putBinaries_L29 p1_on FU (0 : Int32) u2.1 (1 : Int32) u2.2)))) (fX0_putBinaries_L16 p1_on t_length t_withBinaries t_row)
set_option maxHeartbeats 4000000 in
set_option maxRecDepth 100000 in
theorem wX0_putBinaries_E {p : Program} {l : Launch} {e : Env} {s : State} {m : MethodId} {args : Array Value} {below : List Frame} {meth : Method} {c : Code} {G : GT} {A : Nat → Prop} (C : cxt p s m args meth c cX0_putBinaries none 3 "OutStation$Answer" wsX0_putBinaries G A) {a_t : Nat} {a_t_row : Nat} {a_p1 : Nat} {a_p1_on : Nat} {a_t_request : Nat} {a_p1_values : Nat} {a_p1_reported : Nat} {a_p1_bands : Nat} {a_p1_binaryClasses : Nat} {a_p1_analogClasses : Nat} {t_requestLength : Int32} {t_faults : Int32} {t_withAnalogs : Int32} {t_withEvents : Int32} {p1_on : Nat → Int32} {out : Int32 × Int32 × (Nat → Int32)} : ∀ (t_length : Int32) (t_withBinaries : Int32) (t_row : Nat → Int32) (H : Heap) (locs : List Loc) (ls : Array Slot), fX0_putBinaries p1_on t_length t_withBinaries t_row = some out → va_P G.1 vwCl (wdX0_putBinaries G a_t a_t_row a_p1 a_p1_on a_t_request a_p1_values a_p1_reported a_p1_bands a_p1_binaryClasses a_p1_analogClasses t_length t_requestLength t_faults t_withBinaries t_withAnalogs t_withEvents t_row p1_on) H → va_D A (wdX0_putBinaries G a_t a_t_row a_p1 a_p1_on a_t_request a_p1_values a_p1_reported a_p1_bands a_p1_binaryClasses a_p1_analogClasses t_length t_requestLength t_faults t_withBinaries t_withAnalogs t_withEvents t_row p1_on) → va_S A s.heap H locs → lv_has ls 3 [(0, .ref a_t), (1, .ref a_p1)] → W p l e rmX0_putBinaries s m args below meth c H locs 0 0 (MQ below (gQv G A (wdX0_putBinaries G a_t a_t_row a_p1 a_p1_on a_t_request a_p1_values a_p1_reported a_p1_bands a_p1_binaryClasses a_p1_analogClasses out.1 t_requestLength t_faults out.2.1 t_withAnalogs t_withEvents out.2.2 p1_on)) args s 0 0 A) (F0 m 0 ls []) := by
  obtain ⟨hx, hb, hr, hml, hown, hts, hlocks, hA, hK⟩ := id C
  have hB : ∀ w ∈ BG, w.before args s = true := fun w h => hts w (List.mem_cons_of_mem _ h)
  intro t_length t_withBinaries t_row H locs ls h hP hD hS hl
  unfold fX0_putBinaries at h
  refine lv_aload_n hx hb dX0_putBinaries_0 rfl (lv_at hl 0 rfl) ?_
  refine va_get (D := G.1) (ci := 0) (v := .int t_withBinaries) (C := RX0) (T := TX0) (N := 8) hx hb hB iX0 hown hK.1 hP 0 rfl rfl 5 (by decide) (hB _ kw148) (fun _ h9 => h9) rfl dX0_putBinaries_1 ?_
  refine lv_if_ne (tgt := 16) hx hb dX0_putBinaries_4 (by decide) (fun hc4 => ?_) (fun hc4 => ?_)
  · have h := brc_ff h hc4
    exact wX0_putBinaries_L16 C t_length t_withBinaries t_row _ _ _ h hP hD hS (lv_sub hl [] rfl)
  · have h := brc_tt h hc4
    refine lv_aload_n hx hb dX0_putBinaries_7 rfl (lv_at hl 0 rfl) ?_
    refine lv_bipush (v := (21 : Int32)) hx hb dX0_putBinaries_8 (by decide) ?_
    obtain ⟨u1, hu1, h⟩ := bnd_some h
    have hPc := hP.sub (ws' := (wdX0_hasRoom G a_t a_t_row a_t_request t_length t_requestLength t_faults t_withBinaries t_withAnalogs t_withEvents t_row)) [0, 1] rfl
    have hDc := hD.sub (ws' := (wdX0_hasRoom G a_t a_t_row a_t_request t_length t_requestLength t_faults t_withBinaries t_withAnalogs t_withEvents t_row)) [0, 1] (by decide) rfl
    refine g_i (wc := (wdX0_hasRoom G a_t a_t_row a_t_request t_length t_requestLength t_faults t_withBinaries t_withAnalogs t_withEvents t_row)) (w1 := (wdX0_hasRoom G a_t a_t_row a_t_request t_length t_requestLength t_faults t_withBinaries t_withAnalogs t_withEvents t_row)) (w2 := (wdX0_putBinaries G a_t a_t_row a_p1 a_p1_on a_t_request a_p1_values a_p1_reported a_p1_bands a_p1_binaryClasses a_p1_analogClasses t_length t_requestLength t_faults t_withBinaries t_withAnalogs t_withEvents t_row p1_on)) (va_runV (As := [.int (21 : Int32)]) (rest := []) ⟨hx, hb, hml, hown, hts⟩ (mX0_hasRoom l G a_t a_t_row a_t_request t_length t_requestLength t_faults t_withBinaries t_withAnalogs t_withEvents t_row (21 : Int32) H.size u1 hu1) ⟨(callB_of 1 hts (bgIn kw611) rfl rfl rfl (hB _ kw50) (hB _ kw608) hdX0_hasRoom ⟨(Nat.le_of_ble_eq_true rfl), (Nat.le_of_ble_eq_true rfl)⟩), hB _ kw610, hB _ kw20⟩ (gPreV (ci := 0) (qr := 0) hK hPc hDc rfl rfl rfl) rfl rfl hl.1 rfl (lv_room (Nat.le_of_ble_eq_true rfl)) dX0_putBinaries_10 ⟨(Nat.le_of_ble_eq_true rfl), (Nat.le_of_ble_eq_true rfl)⟩) hP hD hS hA [0, 1] rfl rfl [.inr 0, .inr 1, .inl 2, .inl 3] rfl rfl (fun H locs hP hD hS => ?_)
    refine lv_if_ne (tgt := 17) hx hb dX0_putBinaries_13 (by decide) (fun hc13 => ?_) (fun hc13 => ?_)
    · have h := brc_ff h hc13
      refine lv_aload_n hx hb dX0_putBinaries_17 rfl (lv_at hl 0 rfl) ?_
      refine lv_iconst (v := (1 : Int32)) hx hb dX0_putBinaries_18 (by decide) ?_
      refine va_put (D := G.1) (ci := 0) (v := .int (1 : Int32)) (ty := .boolean) (C := RX0) (T := TX0) (N := 8) hx hb hB iX0 tyX0 tyX0_ok nmX0 hown hK.1 hP hD hS 0 rfl rfl 5 (by decide) (hB _ kw148) (fun _ h9 => h9) rfl (by decide +kernel) (isB_nar (Or.inr rfl)) (isB_fit (Or.inr rfl)) (Nat.le_of_ble_eq_true rfl) dX0_putBinaries_19 (fun H locs hP hD hS => ?_)
      have hP : va_P G.1 vwCl (wdX0_putBinaries G a_t a_t_row a_p1 a_p1_on a_t_request a_p1_values a_p1_reported a_p1_bands a_p1_binaryClasses a_p1_analogClasses t_length t_requestLength t_faults (1 : Int32) t_withAnalogs t_withEvents t_row p1_on) H := hP
      have hD : va_D A (wdX0_putBinaries G a_t a_t_row a_p1 a_p1_on a_t_request a_p1_values a_p1_reported a_p1_bands a_p1_binaryClasses a_p1_analogClasses t_length t_requestLength t_faults (1 : Int32) t_withAnalogs t_withEvents t_row p1_on) := hD
      refine lv_aload_n hx hb dX0_putBinaries_22 rfl (lv_at hl 0 rfl) ?_
      refine lv_iconst (v := (1 : Int32)) hx hb dX0_putBinaries_23 (by decide) ?_
      obtain ⟨u2, hu2, h⟩ := bnd_some h
      have hPc := hP.sub (ws' := (wdX0_putStaticHead G a_t a_t_row a_t_request t_length t_requestLength t_faults (1 : Int32) t_withAnalogs t_withEvents t_row)) [0, 1] rfl
      have hDc := hD.sub (ws' := (wdX0_putStaticHead G a_t a_t_row a_t_request t_length t_requestLength t_faults (1 : Int32) t_withAnalogs t_withEvents t_row)) [0, 1] (by decide) rfl
      refine g_v (wc := (wdX0_putStaticHead G a_t a_t_row a_t_request t_length t_requestLength t_faults (1 : Int32) t_withAnalogs t_withEvents t_row)) (w1 := (wdX0_putStaticHead G a_t a_t_row a_t_request u2.1 t_requestLength t_faults (1 : Int32) t_withAnalogs t_withEvents u2.2)) (w2 := (wdX0_putBinaries G a_t a_t_row a_p1 a_p1_on a_t_request a_p1_values a_p1_reported a_p1_bands a_p1_binaryClasses a_p1_analogClasses u2.1 t_requestLength t_faults (1 : Int32) t_withAnalogs t_withEvents u2.2 p1_on)) (va_runV (As := [.int (1 : Int32)]) (rest := []) ⟨hx, hb, hml, hown, hts⟩ (mX0_putStaticHead l G a_t a_t_row a_t_request t_requestLength t_faults (1 : Int32) t_withAnalogs t_withEvents (1 : Int32) t_length t_row H.size u2 hu2) ⟨(callB_of 1 hts (bgIn kw615) rfl rfl rfl (hB _ kw50) (hB _ kw612) hdX0_putStaticHead ⟨(Nat.le_of_ble_eq_true rfl), (Nat.le_of_ble_eq_true rfl)⟩), hB _ kw614, hB _ kw21⟩ (gPreV (ci := 0) (qr := 0) hK hPc hDc rfl rfl rfl) rfl rfl hl.1 rfl (lv_room (Nat.le_of_ble_eq_true rfl)) dX0_putBinaries_24 ⟨(Nat.le_of_ble_eq_true rfl), (Nat.le_of_ble_eq_true rfl)⟩) hP hD hS hA [0, 1] rfl rfl [.inr 0, .inr 1, .inl 2, .inl 3] rfl rfl (fun H locs hP hD hS => ?_)
      refine lv_iconst (v := (0 : Int32)) hx hb dX0_putBinaries_27 (by decide) ?_
      refine lv_istore_n (lv' := [(2, .int (0 : Int32)), (0, .ref a_t), (1, .ref a_p1)]) hx hb dX0_putBinaries_28 rfl hl (by decide) rfl (fun ls hl => ?_)
      exact wX0_putBinaries_L29 C FU (0 : Int32) u2.1 (1 : Int32) u2.2 _ _ _ h hP hD hS (lv_sub hl [1, 2, 0] rfl)
    · have h := brc_tt h hc13
      exact wX0_putBinaries_L16 C t_length t_withBinaries t_row _ _ _ h hP hD hS (lv_sub hl [] rfl)
set_option maxHeartbeats 4000000 in
set_option maxRecDepth 100000 in
theorem mX0_putBinaries (l : Launch) (G : GT) (a_t : Nat) (a_t_row : Nat) (a_p1 : Nat) (a_p1_on : Nat) (a_t_request : Nat) (a_p1_values : Nat) (a_p1_reported : Nat) (a_p1_bands : Nat) (a_p1_binaryClasses : Nat) (a_p1_analogClasses : Nat) (t_requestLength : Int32) (t_faults : Int32) (t_withAnalogs : Int32) (t_withEvents : Int32) (p1_on : Nat → Int32) (t_length : Int32) (t_withBinaries : Int32) (t_row : Nat → Int32) (sz : Nat) (out : Int32 × Int32 × (Nat → Int32)) (h : fX0_putBinaries p1_on t_length t_withBinaries t_row = some out) : Met l yX0_putBinaries wsX0_putBinaries rmX0_putBinaries (gPc G [.ref a_t, .ref a_p1] sz (wdX0_putBinaries G a_t a_t_row a_p1 a_p1_on a_t_request a_p1_values a_p1_reported a_p1_bands a_p1_binaryClasses a_p1_analogClasses t_length t_requestLength t_faults t_withBinaries t_withAnalogs t_withEvents t_row p1_on)) (gQv G (va_A (wdX0_putBinaries G a_t a_t_row a_p1 a_p1_on a_t_request a_p1_values a_p1_reported a_p1_bands a_p1_binaryClasses a_p1_analogClasses t_length t_requestLength t_faults t_withBinaries t_withAnalogs t_withEvents t_row p1_on) sz) (wdX0_putBinaries G a_t a_t_row a_p1 a_p1_on a_t_request a_p1_values a_p1_reported a_p1_bands a_p1_binaryClasses a_p1_analogClasses out.1 t_requestLength t_faults out.2.1 t_withAnalogs t_withEvents out.2.2 p1_on)) 0 0 (va_A (wdX0_putBinaries G a_t a_t_row a_p1 a_p1_on a_t_request a_p1_values a_p1_reported a_p1_bands a_p1_binaryClasses a_p1_analogClasses t_length t_requestLength t_faults t_withBinaries t_withAnalogs t_withEvents t_row p1_on) sz) := by
  refine Met.ofW (cc := cX0_putBinaries) (maxL := 3) (ret := none) (by decide) rfl ?_
  intro p e s m args below meth c s₁ B hml hv
  obtain ⟨rfl, hsz, hP, hK, hD0⟩ := hv
  have hts := atoms_spec (ws := wsX0_putBinaries) B.pre
  have hown : s.vm.findClass "OutStation$Answer" = some m.cls := findClass_of_methodNamed B.named
  subst hsz
  have hD := hD0.self (sz := s.heap.size)
  generalize hAe : va_A (wdX0_putBinaries G a_t a_t_row a_p1 a_p1_on a_t_request a_p1_values a_p1_reported a_p1_bands a_p1_binaryClasses a_p1_analogClasses t_length t_requestLength t_faults t_withBinaries t_withAnalogs t_withEvents t_row p1_on) s.heap.size = A at hD ⊢
  have hA : ∀ q : Nat, s.heap.size ≤ q → A q := fun q h => by rw [← hAe]; exact Or.inr h
  have hS : va_S A s.heap s.heap [] := va_S.rf
  have hl := lv_entry ([.ref a_t, .ref a_p1]) (n := 3) (Nat.le_of_ble_eq_true rfl)
  rw [lg_entry_eq]
  generalize (lg_sl ([.ref a_t, .ref a_p1]) ++ List.replicate (3 - (lg_sl ([.ref a_t, .ref a_p1])).length) Slot.unset).toArray = ls at hl ⊢
  exact wX0_putBinaries_E ⟨B.exec, B.bytes, B.returns, hml, hown, hts, B.notSynchronized, hA, hK⟩ t_length t_withBinaries t_row _ _ _ h hP hD hS hl
/-! ### OutStation$Answer.putAnalogs (LOutStation$Points;)V -/
abbrev wdX0_putAnalogs (G : GT) (a_t : Nat) (a_t_row : Nat) (a_p1 : Nat) (a_p1_values : Nat) (a_t_request : Nat) (a_p1_on : Nat) (a_p1_reported : Nat) (a_p1_bands : Nat) (a_p1_binaryClasses : Nat) (a_p1_analogClasses : Nat) (t_length : Int32) (t_requestLength : Int32) (t_faults : Int32) (t_withBinaries : Int32) (t_withAnalogs : Int32) (t_withEvents : Int32) (t_row : Nat → Int32) (p1_values : Nat → Int32) : va_W := [(a_t, .inr (0, [.ref a_t_row, .int t_length, .ref a_t_request, .int t_requestLength, .int t_faults, .int t_withBinaries, .int t_withAnalogs, .int t_withEvents])), (a_t_row, .inl (G.2.1, 250, .inl t_row)), (a_p1, .inr (7, [.ref a_p1_on, .ref a_p1_values, .ref a_p1_reported, .ref a_p1_bands, .ref a_p1_binaryClasses, .ref a_p1_analogClasses])), (a_p1_values, .inl (G.2.1, 16, .inl p1_values))]
abbrev wsX0_putAnalogs : List Cond := .code yX0_putAnalogs cX0_putAnalogs 3 none :: BG
abbrev rmX0_putAnalogs : Room := { frames := 2, cells := 0, slots := 0, locals := 42 }
noncomputable def fX0_putAnalogs_L16 (p1_values : Nat → Int32) (t_length : Int32) (t_withAnalogs : Int32) (t_row : Nat → Int32) : Option (Int32 × Int32 × (Nat → Int32)) := some (t_length, t_withAnalogs, t_row)
set_option maxHeartbeats 4000000 in
set_option maxRecDepth 100000 in
theorem wX0_putAnalogs_L16 {p : Program} {l : Launch} {e : Env} {s : State} {m : MethodId} {args : Array Value} {below : List Frame} {meth : Method} {c : Code} {G : GT} {A : Nat → Prop} (C : cxt p s m args meth c cX0_putAnalogs none 3 "OutStation$Answer" wsX0_putAnalogs G A) {a_t : Nat} {a_t_row : Nat} {a_p1 : Nat} {a_p1_values : Nat} {a_t_request : Nat} {a_p1_on : Nat} {a_p1_reported : Nat} {a_p1_bands : Nat} {a_p1_binaryClasses : Nat} {a_p1_analogClasses : Nat} {t_requestLength : Int32} {t_faults : Int32} {t_withBinaries : Int32} {t_withEvents : Int32} {p1_values : Nat → Int32} {out : Int32 × Int32 × (Nat → Int32)} : ∀ (t_length : Int32) (t_withAnalogs : Int32) (t_row : Nat → Int32) (H : Heap) (locs : List Loc) (ls : Array Slot), fX0_putAnalogs_L16 p1_values t_length t_withAnalogs t_row = some out → va_P G.1 vwCl (wdX0_putAnalogs G a_t a_t_row a_p1 a_p1_values a_t_request a_p1_on a_p1_reported a_p1_bands a_p1_binaryClasses a_p1_analogClasses t_length t_requestLength t_faults t_withBinaries t_withAnalogs t_withEvents t_row p1_values) H → va_D A (wdX0_putAnalogs G a_t a_t_row a_p1 a_p1_values a_t_request a_p1_on a_p1_reported a_p1_bands a_p1_binaryClasses a_p1_analogClasses t_length t_requestLength t_faults t_withBinaries t_withAnalogs t_withEvents t_row p1_values) → va_S A s.heap H locs → lv_has ls 3 [] → W p l e rmX0_putAnalogs s m args below meth c H locs 0 0 (MQ below (gQv G A (wdX0_putAnalogs G a_t a_t_row a_p1 a_p1_values a_t_request a_p1_on a_p1_reported a_p1_bands a_p1_binaryClasses a_p1_analogClasses out.1 t_requestLength t_faults t_withBinaries out.2.1 t_withEvents out.2.2 p1_values)) args s 0 0 A) (F0 m 16 ls []) := by
  obtain ⟨hx, hb, hr, hml, hown, hts, hlocks, hA, hK⟩ := id C
  have hB : ∀ w ∈ BG, w.before args s = true := fun w h => hts w (List.mem_cons_of_mem _ h)
  intro t_length t_withAnalogs t_row H locs ls h hP hD hS hl
  unfold fX0_putAnalogs_L16 at h
  obtain rfl := Option.some.inj h
  exact W.vret hx hb hr (fun t ht hW => ⟨⟨(), rfl, trivial, by rw [ht]; exact hP, hD⟩, hS.F ht⟩) hS.2.2 dX0_putAnalogs_16
noncomputable def fX0_putAnalogs_L30 (p1_values : Nat → Int32) (n : Nat) : Int32 → Int32 → Int32 → (Nat → Int32) → Option (Int32 × Int32 × (Nat → Int32)) := Nat.rec (motive := fun _ => Int32 → Int32 → Int32 → (Nat → Int32) → Option (Int32 × Int32 × (Nat → Int32))) (fun _ _ _ _ => none) (fun _ k_L30 x2 t_length t_withAnalogs t_row => brc ((16 : Int32) ≤ x2) (some (t_length, t_withAnalogs, t_row)) (bnd (fX0_put (1 : Int32) t_length t_row) (fun u1 => bnd (fX7_valueOf p1_values x2) (fun u2 => bnd (fX0_put u2 u1.1 u1.2) (fun u3 => bnd (fX7_valueOf p1_values x2) (fun u4 => bnd (fX0_put (u4 >>> ((8 : Int32) &&& 31)) u3.1 u3.2) (fun u5 => k_L30 (x2 + (1 : Int32)) u5.1 t_withAnalogs u5.2))))))) n
set_option maxHeartbeats 4000000 in
set_option maxRecDepth 100000 in
theorem wX0_putAnalogs_L30 {p : Program} {l : Launch} {e : Env} {s : State} {m : MethodId} {args : Array Value} {below : List Frame} {meth : Method} {c : Code} {G : GT} {A : Nat → Prop} (C : cxt p s m args meth c cX0_putAnalogs none 3 "OutStation$Answer" wsX0_putAnalogs G A) {a_t : Nat} {a_t_row : Nat} {a_p1 : Nat} {a_p1_values : Nat} {a_t_request : Nat} {a_p1_on : Nat} {a_p1_reported : Nat} {a_p1_bands : Nat} {a_p1_binaryClasses : Nat} {a_p1_analogClasses : Nat} {t_requestLength : Int32} {t_faults : Int32} {t_withBinaries : Int32} {t_withEvents : Int32} {p1_values : Nat → Int32} {out : Int32 × Int32 × (Nat → Int32)} : ∀ (n : Nat) (x2 : Int32) (t_length : Int32) (t_withAnalogs : Int32) (t_row : Nat → Int32) (H : Heap) (locs : List Loc) (ls : Array Slot), fX0_putAnalogs_L30 p1_values n x2 t_length t_withAnalogs t_row = some out → va_P G.1 vwCl (wdX0_putAnalogs G a_t a_t_row a_p1 a_p1_values a_t_request a_p1_on a_p1_reported a_p1_bands a_p1_binaryClasses a_p1_analogClasses t_length t_requestLength t_faults t_withBinaries t_withAnalogs t_withEvents t_row p1_values) H → va_D A (wdX0_putAnalogs G a_t a_t_row a_p1 a_p1_values a_t_request a_p1_on a_p1_reported a_p1_bands a_p1_binaryClasses a_p1_analogClasses t_length t_requestLength t_faults t_withBinaries t_withAnalogs t_withEvents t_row p1_values) → va_S A s.heap H locs → lv_has ls 3 [(0, .ref a_t), (1, .ref a_p1), (2, .int x2)] → W p l e rmX0_putAnalogs s m args below meth c H locs 0 0 (MQ below (gQv G A (wdX0_putAnalogs G a_t a_t_row a_p1 a_p1_values a_t_request a_p1_on a_p1_reported a_p1_bands a_p1_binaryClasses a_p1_analogClasses out.1 t_requestLength t_faults t_withBinaries out.2.1 t_withEvents out.2.2 p1_values)) args s 0 0 A) (F0 m 30 ls []) := by
  obtain ⟨hx, hb, hr, hml, hown, hts, hlocks, hA, hK⟩ := id C
  have hB : ∀ w ∈ BG, w.before args s = true := fun w h => hts w (List.mem_cons_of_mem _ h)
  intro n
  induction n with
  | zero =>
    intro x2 t_length t_withAnalogs t_row H locs ls h hP hD hS hl
    cases h
  | succ n ih =>
    intro x2 t_length t_withAnalogs t_row H locs ls h hP hD hS hl
    replace h : brc ((16 : Int32) ≤ x2) (some (t_length, t_withAnalogs, t_row)) (bnd (fX0_put (1 : Int32) t_length t_row) (fun u1 => bnd (fX7_valueOf p1_values x2) (fun u2 => bnd (fX0_put u2 u1.1 u1.2) (fun u3 => bnd (fX7_valueOf p1_values x2) (fun u4 => bnd (fX0_put (u4 >>> ((8 : Int32) &&& 31)) u3.1 u3.2) (fun u5 => (fX0_putAnalogs_L30 p1_values n) (x2 + (1 : Int32)) u5.1 t_withAnalogs u5.2)))))) = some out := h
    refine lv_iload_n hx hb dX0_putAnalogs_30 rfl (lv_at hl 2 rfl) ?_
    refine lv_bipush (v := (16 : Int32)) hx hb dX0_putAnalogs_31 (by decide) ?_
    refine lv_icmp_ge (tgt := 68) hx hb dX0_putAnalogs_33 (by decide) (fun hc33 => ?_) (fun hc33 => ?_)
    · have h := brc_tt h hc33
      obtain rfl := Option.some.inj h
      exact W.vret hx hb hr (fun t ht hW => ⟨⟨(), rfl, trivial, by rw [ht]; exact hP, hD⟩, hS.F ht⟩) hS.2.2 dX0_putAnalogs_68
    · have h := brc_ff h hc33
      refine lv_aload_n hx hb dX0_putAnalogs_36 rfl (lv_at hl 0 rfl) ?_
      refine lv_iconst (v := (1 : Int32)) hx hb dX0_putAnalogs_37 (by decide) ?_
      obtain ⟨u1, hu1, h⟩ := bnd_some h
      have hPc := hP.sub (ws' := (wdX0_put G a_t a_t_row a_t_request t_length t_requestLength t_faults t_withBinaries t_withAnalogs t_withEvents t_row)) [0, 1] rfl
      have hDc := hD.sub (ws' := (wdX0_put G a_t a_t_row a_t_request t_length t_requestLength t_faults t_withBinaries t_withAnalogs t_withEvents t_row)) [0, 1] (by decide) rfl
      refine g_v (wc := (wdX0_put G a_t a_t_row a_t_request t_length t_requestLength t_faults t_withBinaries t_withAnalogs t_withEvents t_row)) (w1 := (wdX0_put G a_t a_t_row a_t_request u1.1 t_requestLength t_faults t_withBinaries t_withAnalogs t_withEvents u1.2)) (w2 := (wdX0_putAnalogs G a_t a_t_row a_p1 a_p1_values a_t_request a_p1_on a_p1_reported a_p1_bands a_p1_binaryClasses a_p1_analogClasses u1.1 t_requestLength t_faults t_withBinaries t_withAnalogs t_withEvents u1.2 p1_values)) (va_runV (As := [.int (1 : Int32)]) (rest := []) ⟨hx, hb, hml, hown, hts⟩ (mX0_put l G a_t a_t_row a_t_request t_requestLength t_faults t_withBinaries t_withAnalogs t_withEvents (1 : Int32) t_length t_row H.size u1 hu1) ⟨(callB_of 1 hts (bgIn kw619) rfl rfl rfl (hB _ kw50) (hB _ kw616) hdX0_put ⟨(Nat.le_of_ble_eq_true rfl), (Nat.le_of_ble_eq_true rfl)⟩), hB _ kw617, hB _ kw618⟩ (gPreV (ci := 0) (qr := 0) hK hPc hDc rfl rfl rfl) rfl rfl hl.1 rfl (lv_room (Nat.le_of_ble_eq_true rfl)) dX0_putAnalogs_38 ⟨(Nat.le_of_ble_eq_true rfl), (Nat.le_of_ble_eq_true rfl)⟩) hP hD hS hA [0, 1] rfl rfl [.inr 0, .inr 1, .inl 2, .inl 3] rfl rfl (fun H locs hP hD hS => ?_)
      refine lv_aload_n hx hb dX0_putAnalogs_41 rfl (lv_at hl 0 rfl) ?_
      refine lv_aload_n hx hb dX0_putAnalogs_42 rfl (lv_at hl 1 rfl) ?_
      refine lv_iload_n hx hb dX0_putAnalogs_43 rfl (lv_at hl 2 rfl) ?_
      obtain ⟨u2, hu2, h⟩ := bnd_some h
      have hPc := hP.sub (ws' := (wdX7_valueOf G a_p1 a_p1_values a_p1_on a_p1_reported a_p1_bands a_p1_binaryClasses a_p1_analogClasses p1_values)) [2, 3] rfl
      have hDc := hD.sub (ws' := (wdX7_valueOf G a_p1 a_p1_values a_p1_on a_p1_reported a_p1_bands a_p1_binaryClasses a_p1_analogClasses p1_values)) [2, 3] (by decide) rfl
      refine g_i (wc := (wdX7_valueOf G a_p1 a_p1_values a_p1_on a_p1_reported a_p1_bands a_p1_binaryClasses a_p1_analogClasses p1_values)) (w1 := (wdX7_valueOf G a_p1 a_p1_values a_p1_on a_p1_reported a_p1_bands a_p1_binaryClasses a_p1_analogClasses p1_values)) (w2 := (wdX0_putAnalogs G a_t a_t_row a_p1 a_p1_values a_t_request a_p1_on a_p1_reported a_p1_bands a_p1_binaryClasses a_p1_analogClasses u1.1 t_requestLength t_faults t_withBinaries t_withAnalogs t_withEvents u1.2 p1_values)) (va_runV (As := [.int x2]) (rest := [.ref a_t]) ⟨hx, hb, hml, hown, hts⟩ (mX7_valueOf l G a_p1 a_p1_values a_p1_on a_p1_reported a_p1_bands a_p1_binaryClasses a_p1_analogClasses p1_values x2 H.size u2 hu2) ⟨(callB_of 1 hts (bgIn kw634) rfl rfl rfl (hB _ kw52) (hB _ kw631) hdX7_valueOf ⟨(Nat.le_of_ble_eq_true rfl), (Nat.le_of_ble_eq_true rfl)⟩), hB _ kw632, hB _ kw633⟩ (gPreV (ci := 7) (qr := 0) hK hPc hDc rfl rfl rfl) rfl rfl hl.1 rfl (lv_room (Nat.le_of_ble_eq_true rfl)) dX0_putAnalogs_44 ⟨(Nat.le_of_ble_eq_true rfl), (Nat.le_of_ble_eq_true rfl)⟩) hP hD hS hA [2, 3] rfl rfl [.inl 0, .inl 1, .inr 0, .inr 1] rfl rfl (fun H locs hP hD hS => ?_)
      obtain ⟨u3, hu3, h⟩ := bnd_some h
      have hPc := hP.sub (ws' := (wdX0_put G a_t a_t_row a_t_request u1.1 t_requestLength t_faults t_withBinaries t_withAnalogs t_withEvents u1.2)) [0, 1] rfl
      have hDc := hD.sub (ws' := (wdX0_put G a_t a_t_row a_t_request u1.1 t_requestLength t_faults t_withBinaries t_withAnalogs t_withEvents u1.2)) [0, 1] (by decide) rfl
      refine g_v (wc := (wdX0_put G a_t a_t_row a_t_request u1.1 t_requestLength t_faults t_withBinaries t_withAnalogs t_withEvents u1.2)) (w1 := (wdX0_put G a_t a_t_row a_t_request u3.1 t_requestLength t_faults t_withBinaries t_withAnalogs t_withEvents u3.2)) (w2 := (wdX0_putAnalogs G a_t a_t_row a_p1 a_p1_values a_t_request a_p1_on a_p1_reported a_p1_bands a_p1_binaryClasses a_p1_analogClasses u3.1 t_requestLength t_faults t_withBinaries t_withAnalogs t_withEvents u3.2 p1_values)) (va_runV (As := [.int u2]) (rest := []) ⟨hx, hb, hml, hown, hts⟩ (mX0_put l G a_t a_t_row a_t_request t_requestLength t_faults t_withBinaries t_withAnalogs t_withEvents u2 u1.1 u1.2 H.size u3 hu3) ⟨(callB_of 1 hts (bgIn kw619) rfl rfl rfl (hB _ kw50) (hB _ kw616) hdX0_put ⟨(Nat.le_of_ble_eq_true rfl), (Nat.le_of_ble_eq_true rfl)⟩), hB _ kw617, hB _ kw618⟩ (gPreV (ci := 0) (qr := 0) hK hPc hDc rfl rfl rfl) rfl rfl hl.1 rfl (lv_room (Nat.le_of_ble_eq_true rfl)) dX0_putAnalogs_47 ⟨(Nat.le_of_ble_eq_true rfl), (Nat.le_of_ble_eq_true rfl)⟩) hP hD hS hA [0, 1] rfl rfl [.inr 0, .inr 1, .inl 2, .inl 3] rfl rfl (fun H locs hP hD hS => ?_)
      refine lv_aload_n hx hb dX0_putAnalogs_50 rfl (lv_at hl 0 rfl) ?_
      refine lv_aload_n hx hb dX0_putAnalogs_51 rfl (lv_at hl 1 rfl) ?_
      refine lv_iload_n hx hb dX0_putAnalogs_52 rfl (lv_at hl 2 rfl) ?_
      obtain ⟨u4, hu4, h⟩ := bnd_some h
      have hPc := hP.sub (ws' := (wdX7_valueOf G a_p1 a_p1_values a_p1_on a_p1_reported a_p1_bands a_p1_binaryClasses a_p1_analogClasses p1_values)) [2, 3] rfl
      have hDc := hD.sub (ws' := (wdX7_valueOf G a_p1 a_p1_values a_p1_on a_p1_reported a_p1_bands a_p1_binaryClasses a_p1_analogClasses p1_values)) [2, 3] (by decide) rfl
      refine g_i (wc := (wdX7_valueOf G a_p1 a_p1_values a_p1_on a_p1_reported a_p1_bands a_p1_binaryClasses a_p1_analogClasses p1_values)) (w1 := (wdX7_valueOf G a_p1 a_p1_values a_p1_on a_p1_reported a_p1_bands a_p1_binaryClasses a_p1_analogClasses p1_values)) (w2 := (wdX0_putAnalogs G a_t a_t_row a_p1 a_p1_values a_t_request a_p1_on a_p1_reported a_p1_bands a_p1_binaryClasses a_p1_analogClasses u3.1 t_requestLength t_faults t_withBinaries t_withAnalogs t_withEvents u3.2 p1_values)) (va_runV (As := [.int x2]) (rest := [.ref a_t]) ⟨hx, hb, hml, hown, hts⟩ (mX7_valueOf l G a_p1 a_p1_values a_p1_on a_p1_reported a_p1_bands a_p1_binaryClasses a_p1_analogClasses p1_values x2 H.size u4 hu4) ⟨(callB_of 1 hts (bgIn kw634) rfl rfl rfl (hB _ kw52) (hB _ kw631) hdX7_valueOf ⟨(Nat.le_of_ble_eq_true rfl), (Nat.le_of_ble_eq_true rfl)⟩), hB _ kw632, hB _ kw633⟩ (gPreV (ci := 7) (qr := 0) hK hPc hDc rfl rfl rfl) rfl rfl hl.1 rfl (lv_room (Nat.le_of_ble_eq_true rfl)) dX0_putAnalogs_53 ⟨(Nat.le_of_ble_eq_true rfl), (Nat.le_of_ble_eq_true rfl)⟩) hP hD hS hA [2, 3] rfl rfl [.inl 0, .inl 1, .inr 0, .inr 1] rfl rfl (fun H locs hP hD hS => ?_)
      refine lv_bipush (v := (8 : Int32)) hx hb dX0_putAnalogs_56 (by decide) ?_
      refine lv_ishr hx hb dX0_putAnalogs_58 ?_
      obtain ⟨u5, hu5, h⟩ := bnd_some h
      have hPc := hP.sub (ws' := (wdX0_put G a_t a_t_row a_t_request u3.1 t_requestLength t_faults t_withBinaries t_withAnalogs t_withEvents u3.2)) [0, 1] rfl
      have hDc := hD.sub (ws' := (wdX0_put G a_t a_t_row a_t_request u3.1 t_requestLength t_faults t_withBinaries t_withAnalogs t_withEvents u3.2)) [0, 1] (by decide) rfl
      refine g_v (wc := (wdX0_put G a_t a_t_row a_t_request u3.1 t_requestLength t_faults t_withBinaries t_withAnalogs t_withEvents u3.2)) (w1 := (wdX0_put G a_t a_t_row a_t_request u5.1 t_requestLength t_faults t_withBinaries t_withAnalogs t_withEvents u5.2)) (w2 := (wdX0_putAnalogs G a_t a_t_row a_p1 a_p1_values a_t_request a_p1_on a_p1_reported a_p1_bands a_p1_binaryClasses a_p1_analogClasses u5.1 t_requestLength t_faults t_withBinaries t_withAnalogs t_withEvents u5.2 p1_values)) (va_runV (As := [.int (u4 >>> ((8 : Int32) &&& 31))]) (rest := []) ⟨hx, hb, hml, hown, hts⟩ (mX0_put l G a_t a_t_row a_t_request t_requestLength t_faults t_withBinaries t_withAnalogs t_withEvents (u4 >>> ((8 : Int32) &&& 31)) u3.1 u3.2 H.size u5 hu5) ⟨(callB_of 1 hts (bgIn kw619) rfl rfl rfl (hB _ kw50) (hB _ kw616) hdX0_put ⟨(Nat.le_of_ble_eq_true rfl), (Nat.le_of_ble_eq_true rfl)⟩), hB _ kw617, hB _ kw618⟩ (gPreV (ci := 0) (qr := 0) hK hPc hDc rfl rfl rfl) rfl rfl hl.1 rfl (lv_room (Nat.le_of_ble_eq_true rfl)) dX0_putAnalogs_59 ⟨(Nat.le_of_ble_eq_true rfl), (Nat.le_of_ble_eq_true rfl)⟩) hP hD hS hA [0, 1] rfl rfl [.inr 0, .inr 1, .inl 2, .inl 3] rfl rfl (fun H locs hP hD hS => ?_)
      refine lv_iinc (v := (x2 + (1 : Int32))) (lv' := [(2, .int (x2 + (1 : Int32))), (0, .ref a_t), (1, .ref a_p1)]) hx hb dX0_putAnalogs_62 hl (k := 2) rfl rfl (by decide) rfl (fun ls hl => ?_)
      refine lv_goto (tgt := 30) hx hb dX0_putAnalogs_65 (by decide) ?_
      exact ih (x2 + (1 : Int32)) u5.1 t_withAnalogs u5.2 _ _ _ h hP hD hS (lv_sub hl [1, 2, 0] rfl)
noncomputable def fX0_putAnalogs (p1_values : Nat → Int32) (t_length : Int32) (t_withAnalogs : Int32) (t_row : Nat → Int32) : Option (Int32 × Int32 × (Nat → Int32)) := brc (t_withAnalogs = 0) (bnd (fX0_hasRoom t_length (53 : Int32)) (fun u1 => brc (u1 = 0) (fX0_putAnalogs_L16 p1_values t_length t_withAnalogs t_row) (bnd (fX0_putStaticHead (30 : Int32) t_length t_row) (fun u2 => fX0_putAnalogs_L30 p1_values FU (0 : Int32) u2.1 (1 : Int32) u2.2)))) (fX0_putAnalogs_L16 p1_values t_length t_withAnalogs t_row)
set_option maxHeartbeats 4000000 in
set_option maxRecDepth 100000 in
theorem wX0_putAnalogs_E {p : Program} {l : Launch} {e : Env} {s : State} {m : MethodId} {args : Array Value} {below : List Frame} {meth : Method} {c : Code} {G : GT} {A : Nat → Prop} (C : cxt p s m args meth c cX0_putAnalogs none 3 "OutStation$Answer" wsX0_putAnalogs G A) {a_t : Nat} {a_t_row : Nat} {a_p1 : Nat} {a_p1_values : Nat} {a_t_request : Nat} {a_p1_on : Nat} {a_p1_reported : Nat} {a_p1_bands : Nat} {a_p1_binaryClasses : Nat} {a_p1_analogClasses : Nat} {t_requestLength : Int32} {t_faults : Int32} {t_withBinaries : Int32} {t_withEvents : Int32} {p1_values : Nat → Int32} {out : Int32 × Int32 × (Nat → Int32)} : ∀ (t_length : Int32) (t_withAnalogs : Int32) (t_row : Nat → Int32) (H : Heap) (locs : List Loc) (ls : Array Slot), fX0_putAnalogs p1_values t_length t_withAnalogs t_row = some out → va_P G.1 vwCl (wdX0_putAnalogs G a_t a_t_row a_p1 a_p1_values a_t_request a_p1_on a_p1_reported a_p1_bands a_p1_binaryClasses a_p1_analogClasses t_length t_requestLength t_faults t_withBinaries t_withAnalogs t_withEvents t_row p1_values) H → va_D A (wdX0_putAnalogs G a_t a_t_row a_p1 a_p1_values a_t_request a_p1_on a_p1_reported a_p1_bands a_p1_binaryClasses a_p1_analogClasses t_length t_requestLength t_faults t_withBinaries t_withAnalogs t_withEvents t_row p1_values) → va_S A s.heap H locs → lv_has ls 3 [(0, .ref a_t), (1, .ref a_p1)] → W p l e rmX0_putAnalogs s m args below meth c H locs 0 0 (MQ below (gQv G A (wdX0_putAnalogs G a_t a_t_row a_p1 a_p1_values a_t_request a_p1_on a_p1_reported a_p1_bands a_p1_binaryClasses a_p1_analogClasses out.1 t_requestLength t_faults t_withBinaries out.2.1 t_withEvents out.2.2 p1_values)) args s 0 0 A) (F0 m 0 ls []) := by
  obtain ⟨hx, hb, hr, hml, hown, hts, hlocks, hA, hK⟩ := id C
  have hB : ∀ w ∈ BG, w.before args s = true := fun w h => hts w (List.mem_cons_of_mem _ h)
  intro t_length t_withAnalogs t_row H locs ls h hP hD hS hl
  unfold fX0_putAnalogs at h
  refine lv_aload_n hx hb dX0_putAnalogs_0 rfl (lv_at hl 0 rfl) ?_
  refine va_get (D := G.1) (ci := 0) (v := .int t_withAnalogs) (C := RX0) (T := TX0) (N := 8) hx hb hB iX0 hown hK.1 hP 0 rfl rfl 6 (by decide) (hB _ kw149) (fun _ h9 => h9) rfl dX0_putAnalogs_1 ?_
  refine lv_if_ne (tgt := 16) hx hb dX0_putAnalogs_4 (by decide) (fun hc4 => ?_) (fun hc4 => ?_)
  · have h := brc_ff h hc4
    exact wX0_putAnalogs_L16 C t_length t_withAnalogs t_row _ _ _ h hP hD hS (lv_sub hl [] rfl)
  · have h := brc_tt h hc4
    refine lv_aload_n hx hb dX0_putAnalogs_7 rfl (lv_at hl 0 rfl) ?_
    refine lv_bipush (v := (53 : Int32)) hx hb dX0_putAnalogs_8 (by decide) ?_
    obtain ⟨u1, hu1, h⟩ := bnd_some h
    have hPc := hP.sub (ws' := (wdX0_hasRoom G a_t a_t_row a_t_request t_length t_requestLength t_faults t_withBinaries t_withAnalogs t_withEvents t_row)) [0, 1] rfl
    have hDc := hD.sub (ws' := (wdX0_hasRoom G a_t a_t_row a_t_request t_length t_requestLength t_faults t_withBinaries t_withAnalogs t_withEvents t_row)) [0, 1] (by decide) rfl
    refine g_i (wc := (wdX0_hasRoom G a_t a_t_row a_t_request t_length t_requestLength t_faults t_withBinaries t_withAnalogs t_withEvents t_row)) (w1 := (wdX0_hasRoom G a_t a_t_row a_t_request t_length t_requestLength t_faults t_withBinaries t_withAnalogs t_withEvents t_row)) (w2 := (wdX0_putAnalogs G a_t a_t_row a_p1 a_p1_values a_t_request a_p1_on a_p1_reported a_p1_bands a_p1_binaryClasses a_p1_analogClasses t_length t_requestLength t_faults t_withBinaries t_withAnalogs t_withEvents t_row p1_values)) (va_runV (As := [.int (53 : Int32)]) (rest := []) ⟨hx, hb, hml, hown, hts⟩ (mX0_hasRoom l G a_t a_t_row a_t_request t_length t_requestLength t_faults t_withBinaries t_withAnalogs t_withEvents t_row (53 : Int32) H.size u1 hu1) ⟨(callB_of 1 hts (bgIn kw611) rfl rfl rfl (hB _ kw50) (hB _ kw608) hdX0_hasRoom ⟨(Nat.le_of_ble_eq_true rfl), (Nat.le_of_ble_eq_true rfl)⟩), hB _ kw610, hB _ kw20⟩ (gPreV (ci := 0) (qr := 0) hK hPc hDc rfl rfl rfl) rfl rfl hl.1 rfl (lv_room (Nat.le_of_ble_eq_true rfl)) dX0_putAnalogs_10 ⟨(Nat.le_of_ble_eq_true rfl), (Nat.le_of_ble_eq_true rfl)⟩) hP hD hS hA [0, 1] rfl rfl [.inr 0, .inr 1, .inl 2, .inl 3] rfl rfl (fun H locs hP hD hS => ?_)
    refine lv_if_ne (tgt := 17) hx hb dX0_putAnalogs_13 (by decide) (fun hc13 => ?_) (fun hc13 => ?_)
    · have h := brc_ff h hc13
      refine lv_aload_n hx hb dX0_putAnalogs_17 rfl (lv_at hl 0 rfl) ?_
      refine lv_iconst (v := (1 : Int32)) hx hb dX0_putAnalogs_18 (by decide) ?_
      refine va_put (D := G.1) (ci := 0) (v := .int (1 : Int32)) (ty := .boolean) (C := RX0) (T := TX0) (N := 8) hx hb hB iX0 tyX0 tyX0_ok nmX0 hown hK.1 hP hD hS 0 rfl rfl 6 (by decide) (hB _ kw149) (fun _ h9 => h9) rfl (by decide +kernel) (isB_nar (Or.inr rfl)) (isB_fit (Or.inr rfl)) (Nat.le_of_ble_eq_true rfl) dX0_putAnalogs_19 (fun H locs hP hD hS => ?_)
      have hP : va_P G.1 vwCl (wdX0_putAnalogs G a_t a_t_row a_p1 a_p1_values a_t_request a_p1_on a_p1_reported a_p1_bands a_p1_binaryClasses a_p1_analogClasses t_length t_requestLength t_faults t_withBinaries (1 : Int32) t_withEvents t_row p1_values) H := hP
      have hD : va_D A (wdX0_putAnalogs G a_t a_t_row a_p1 a_p1_values a_t_request a_p1_on a_p1_reported a_p1_bands a_p1_binaryClasses a_p1_analogClasses t_length t_requestLength t_faults t_withBinaries (1 : Int32) t_withEvents t_row p1_values) := hD
      refine lv_aload_n hx hb dX0_putAnalogs_22 rfl (lv_at hl 0 rfl) ?_
      refine lv_bipush (v := (30 : Int32)) hx hb dX0_putAnalogs_23 (by decide) ?_
      obtain ⟨u2, hu2, h⟩ := bnd_some h
      have hPc := hP.sub (ws' := (wdX0_putStaticHead G a_t a_t_row a_t_request t_length t_requestLength t_faults t_withBinaries (1 : Int32) t_withEvents t_row)) [0, 1] rfl
      have hDc := hD.sub (ws' := (wdX0_putStaticHead G a_t a_t_row a_t_request t_length t_requestLength t_faults t_withBinaries (1 : Int32) t_withEvents t_row)) [0, 1] (by decide) rfl
      refine g_v (wc := (wdX0_putStaticHead G a_t a_t_row a_t_request t_length t_requestLength t_faults t_withBinaries (1 : Int32) t_withEvents t_row)) (w1 := (wdX0_putStaticHead G a_t a_t_row a_t_request u2.1 t_requestLength t_faults t_withBinaries (1 : Int32) t_withEvents u2.2)) (w2 := (wdX0_putAnalogs G a_t a_t_row a_p1 a_p1_values a_t_request a_p1_on a_p1_reported a_p1_bands a_p1_binaryClasses a_p1_analogClasses u2.1 t_requestLength t_faults t_withBinaries (1 : Int32) t_withEvents u2.2 p1_values)) (va_runV (As := [.int (30 : Int32)]) (rest := []) ⟨hx, hb, hml, hown, hts⟩ (mX0_putStaticHead l G a_t a_t_row a_t_request t_requestLength t_faults t_withBinaries (1 : Int32) t_withEvents (30 : Int32) t_length t_row H.size u2 hu2) ⟨(callB_of 1 hts (bgIn kw615) rfl rfl rfl (hB _ kw50) (hB _ kw612) hdX0_putStaticHead ⟨(Nat.le_of_ble_eq_true rfl), (Nat.le_of_ble_eq_true rfl)⟩), hB _ kw614, hB _ kw21⟩ (gPreV (ci := 0) (qr := 0) hK hPc hDc rfl rfl rfl) rfl rfl hl.1 rfl (lv_room (Nat.le_of_ble_eq_true rfl)) dX0_putAnalogs_25 ⟨(Nat.le_of_ble_eq_true rfl), (Nat.le_of_ble_eq_true rfl)⟩) hP hD hS hA [0, 1] rfl rfl [.inr 0, .inr 1, .inl 2, .inl 3] rfl rfl (fun H locs hP hD hS => ?_)
      refine lv_iconst (v := (0 : Int32)) hx hb dX0_putAnalogs_28 (by decide) ?_
      refine lv_istore_n (lv' := [(2, .int (0 : Int32)), (0, .ref a_t), (1, .ref a_p1)]) hx hb dX0_putAnalogs_29 rfl hl (by decide) rfl (fun ls hl => ?_)
      exact wX0_putAnalogs_L30 C FU (0 : Int32) u2.1 (1 : Int32) u2.2 _ _ _ h hP hD hS (lv_sub hl [1, 2, 0] rfl)
    · have h := brc_tt h hc13
      exact wX0_putAnalogs_L16 C t_length t_withAnalogs t_row _ _ _ h hP hD hS (lv_sub hl [] rfl)
set_option maxHeartbeats 4000000 in
set_option maxRecDepth 100000 in
theorem mX0_putAnalogs (l : Launch) (G : GT) (a_t : Nat) (a_t_row : Nat) (a_p1 : Nat) (a_p1_values : Nat) (a_t_request : Nat) (a_p1_on : Nat) (a_p1_reported : Nat) (a_p1_bands : Nat) (a_p1_binaryClasses : Nat) (a_p1_analogClasses : Nat) (t_requestLength : Int32) (t_faults : Int32) (t_withBinaries : Int32) (t_withEvents : Int32) (p1_values : Nat → Int32) (t_length : Int32) (t_withAnalogs : Int32) (t_row : Nat → Int32) (sz : Nat) (out : Int32 × Int32 × (Nat → Int32)) (h : fX0_putAnalogs p1_values t_length t_withAnalogs t_row = some out) : Met l yX0_putAnalogs wsX0_putAnalogs rmX0_putAnalogs (gPc G [.ref a_t, .ref a_p1] sz (wdX0_putAnalogs G a_t a_t_row a_p1 a_p1_values a_t_request a_p1_on a_p1_reported a_p1_bands a_p1_binaryClasses a_p1_analogClasses t_length t_requestLength t_faults t_withBinaries t_withAnalogs t_withEvents t_row p1_values)) (gQv G (va_A (wdX0_putAnalogs G a_t a_t_row a_p1 a_p1_values a_t_request a_p1_on a_p1_reported a_p1_bands a_p1_binaryClasses a_p1_analogClasses t_length t_requestLength t_faults t_withBinaries t_withAnalogs t_withEvents t_row p1_values) sz) (wdX0_putAnalogs G a_t a_t_row a_p1 a_p1_values a_t_request a_p1_on a_p1_reported a_p1_bands a_p1_binaryClasses a_p1_analogClasses out.1 t_requestLength t_faults t_withBinaries out.2.1 t_withEvents out.2.2 p1_values)) 0 0 (va_A (wdX0_putAnalogs G a_t a_t_row a_p1 a_p1_values a_t_request a_p1_on a_p1_reported a_p1_bands a_p1_binaryClasses a_p1_analogClasses t_length t_requestLength t_faults t_withBinaries t_withAnalogs t_withEvents t_row p1_values) sz) := by
  refine Met.ofW (cc := cX0_putAnalogs) (maxL := 3) (ret := none) (by decide) rfl ?_
  intro p e s m args below meth c s₁ B hml hv
  obtain ⟨rfl, hsz, hP, hK, hD0⟩ := hv
  have hts := atoms_spec (ws := wsX0_putAnalogs) B.pre
  have hown : s.vm.findClass "OutStation$Answer" = some m.cls := findClass_of_methodNamed B.named
  subst hsz
  have hD := hD0.self (sz := s.heap.size)
  generalize hAe : va_A (wdX0_putAnalogs G a_t a_t_row a_p1 a_p1_values a_t_request a_p1_on a_p1_reported a_p1_bands a_p1_binaryClasses a_p1_analogClasses t_length t_requestLength t_faults t_withBinaries t_withAnalogs t_withEvents t_row p1_values) s.heap.size = A at hD ⊢
  have hA : ∀ q : Nat, s.heap.size ≤ q → A q := fun q h => by rw [← hAe]; exact Or.inr h
  have hS : va_S A s.heap s.heap [] := va_S.rf
  have hl := lv_entry ([.ref a_t, .ref a_p1]) (n := 3) (Nat.le_of_ble_eq_true rfl)
  rw [lg_entry_eq]
  generalize (lg_sl ([.ref a_t, .ref a_p1]) ++ List.replicate (3 - (lg_sl ([.ref a_t, .ref a_p1])).length) Slot.unset).toArray = ls at hl ⊢
  exact wX0_putAnalogs_E ⟨B.exec, B.bytes, B.returns, hml, hown, hts, B.notSynchronized, hA, hK⟩ t_length t_withAnalogs t_row _ _ _ h hP hD hS hl
/-! ### OutStation$Answer.putEventHead (I)V -/
abbrev wdX0_putEventHead (G : GT) (a_t : Nat) (a_t_row : Nat) (a_t_request : Nat) (t_length : Int32) (t_requestLength : Int32) (t_faults : Int32) (t_withBinaries : Int32) (t_withAnalogs : Int32) (t_withEvents : Int32) (t_row : Nat → Int32) : va_W := [(a_t, .inr (0, [.ref a_t_row, .int t_length, .ref a_t_request, .int t_requestLength, .int t_faults, .int t_withBinaries, .int t_withAnalogs, .int t_withEvents])), (a_t_row, .inl (G.2.1, 250, .inl t_row))]
abbrev wsX0_putEventHead : List Cond := .code yX0_putEventHead cX0_putEventHead 2 none :: BG
abbrev rmX0_putEventHead : Room := { frames := 1, cells := 0, slots := 0, locals := 21 }
noncomputable def fX0_putEventHead_L24 (s0 : Int32) (t_length : Int32) (t_row : Nat → Int32) : Option (Int32 × (Nat → Int32)) := bnd (fX0_put s0 t_length t_row) (fun u1 => bnd (fX0_put (23 : Int32) u1.1 u1.2) (fun u2 => bnd (fX0_put (0 : Int32) u2.1 u2.2) (fun u3 => some (u3.1, u3.2))))
set_option maxHeartbeats 4000000 in
set_option maxRecDepth 100000 in
theorem wX0_putEventHead_L24 {p : Program} {l : Launch} {e : Env} {s : State} {m : MethodId} {args : Array Value} {below : List Frame} {meth : Method} {c : Code} {G : GT} {A : Nat → Prop} (C : cxt p s m args meth c cX0_putEventHead none 2 "OutStation$Answer" wsX0_putEventHead G A) {a_t : Nat} {a_t_row : Nat} {a_t_request : Nat} {t_requestLength : Int32} {t_faults : Int32} {t_withBinaries : Int32} {t_withAnalogs : Int32} {t_withEvents : Int32} {out : Int32 × (Nat → Int32)} : ∀ (s0 : Int32) (t_length : Int32) (t_row : Nat → Int32) (H : Heap) (locs : List Loc) (ls : Array Slot), fX0_putEventHead_L24 s0 t_length t_row = some out → va_P G.1 vwCl (wdX0_putEventHead G a_t a_t_row a_t_request t_length t_requestLength t_faults t_withBinaries t_withAnalogs t_withEvents t_row) H → va_D A (wdX0_putEventHead G a_t a_t_row a_t_request t_length t_requestLength t_faults t_withBinaries t_withAnalogs t_withEvents t_row) → va_S A s.heap H locs → lv_has ls 2 [(0, .ref a_t)] → W p l e rmX0_putEventHead s m args below meth c H locs 0 0 (MQ below (gQv G A (wdX0_putEventHead G a_t a_t_row a_t_request out.1 t_requestLength t_faults t_withBinaries t_withAnalogs t_withEvents out.2)) args s 0 0 A) (F0 m 24 ls [.int s0, .ref a_t]) := by
  obtain ⟨hx, hb, hr, hml, hown, hts, hlocks, hA, hK⟩ := id C
  have hB : ∀ w ∈ BG, w.before args s = true := fun w h => hts w (List.mem_cons_of_mem _ h)
  intro s0 t_length t_row H locs ls h hP hD hS hl
  unfold fX0_putEventHead_L24 at h
  obtain ⟨u1, hu1, h⟩ := bnd_some h
  have hPc := hP.sub (ws' := (wdX0_put G a_t a_t_row a_t_request t_length t_requestLength t_faults t_withBinaries t_withAnalogs t_withEvents t_row)) [0, 1] rfl
  have hDc := hD.sub (ws' := (wdX0_put G a_t a_t_row a_t_request t_length t_requestLength t_faults t_withBinaries t_withAnalogs t_withEvents t_row)) [0, 1] (by decide) rfl
  refine g_v (wc := (wdX0_put G a_t a_t_row a_t_request t_length t_requestLength t_faults t_withBinaries t_withAnalogs t_withEvents t_row)) (w1 := (wdX0_put G a_t a_t_row a_t_request u1.1 t_requestLength t_faults t_withBinaries t_withAnalogs t_withEvents u1.2)) (w2 := (wdX0_putEventHead G a_t a_t_row a_t_request u1.1 t_requestLength t_faults t_withBinaries t_withAnalogs t_withEvents u1.2)) (va_runV (As := [.int s0]) (rest := []) ⟨hx, hb, hml, hown, hts⟩ (mX0_put l G a_t a_t_row a_t_request t_requestLength t_faults t_withBinaries t_withAnalogs t_withEvents s0 t_length t_row H.size u1 hu1) ⟨(callB_of 1 hts (bgIn kw619) rfl rfl rfl (hB _ kw50) (hB _ kw616) hdX0_put ⟨(Nat.le_of_ble_eq_true rfl), (Nat.le_of_ble_eq_true rfl)⟩), hB _ kw617, hB _ kw618⟩ (gPreV (ci := 0) (qr := 0) hK hPc hDc rfl rfl rfl) rfl rfl hl.1 rfl (lv_room (Nat.le_of_ble_eq_true rfl)) dX0_putEventHead_24 ⟨(Nat.le_of_ble_eq_true rfl), (Nat.le_of_ble_eq_true rfl)⟩) hP hD hS hA [0, 1] rfl rfl [.inr 0, .inr 1] rfl rfl (fun H locs hP hD hS => ?_)
  refine lv_aload_n hx hb dX0_putEventHead_27 rfl (lv_at hl 0 rfl) ?_
  refine lv_bipush (v := (23 : Int32)) hx hb dX0_putEventHead_28 (by decide) ?_
  obtain ⟨u2, hu2, h⟩ := bnd_some h
  have hPc := hP.sub (ws' := (wdX0_put G a_t a_t_row a_t_request u1.1 t_requestLength t_faults t_withBinaries t_withAnalogs t_withEvents u1.2)) [0, 1] rfl
  have hDc := hD.sub (ws' := (wdX0_put G a_t a_t_row a_t_request u1.1 t_requestLength t_faults t_withBinaries t_withAnalogs t_withEvents u1.2)) [0, 1] (by decide) rfl
  refine g_v (wc := (wdX0_put G a_t a_t_row a_t_request u1.1 t_requestLength t_faults t_withBinaries t_withAnalogs t_withEvents u1.2)) (w1 := (wdX0_put G a_t a_t_row a_t_request u2.1 t_requestLength t_faults t_withBinaries t_withAnalogs t_withEvents u2.2)) (w2 := (wdX0_putEventHead G a_t a_t_row a_t_request u2.1 t_requestLength t_faults t_withBinaries t_withAnalogs t_withEvents u2.2)) (va_runV (As := [.int (23 : Int32)]) (rest := []) ⟨hx, hb, hml, hown, hts⟩ (mX0_put l G a_t a_t_row a_t_request t_requestLength t_faults t_withBinaries t_withAnalogs t_withEvents (23 : Int32) u1.1 u1.2 H.size u2 hu2) ⟨(callB_of 1 hts (bgIn kw619) rfl rfl rfl (hB _ kw50) (hB _ kw616) hdX0_put ⟨(Nat.le_of_ble_eq_true rfl), (Nat.le_of_ble_eq_true rfl)⟩), hB _ kw617, hB _ kw618⟩ (gPreV (ci := 0) (qr := 0) hK hPc hDc rfl rfl rfl) rfl rfl hl.1 rfl (lv_room (Nat.le_of_ble_eq_true rfl)) dX0_putEventHead_30 ⟨(Nat.le_of_ble_eq_true rfl), (Nat.le_of_ble_eq_true rfl)⟩) hP hD hS hA [0, 1] rfl rfl [.inr 0, .inr 1] rfl rfl (fun H locs hP hD hS => ?_)
  refine lv_aload_n hx hb dX0_putEventHead_33 rfl (lv_at hl 0 rfl) ?_
  refine lv_iconst (v := (0 : Int32)) hx hb dX0_putEventHead_34 (by decide) ?_
  obtain ⟨u3, hu3, h⟩ := bnd_some h
  have hPc := hP.sub (ws' := (wdX0_put G a_t a_t_row a_t_request u2.1 t_requestLength t_faults t_withBinaries t_withAnalogs t_withEvents u2.2)) [0, 1] rfl
  have hDc := hD.sub (ws' := (wdX0_put G a_t a_t_row a_t_request u2.1 t_requestLength t_faults t_withBinaries t_withAnalogs t_withEvents u2.2)) [0, 1] (by decide) rfl
  refine g_v (wc := (wdX0_put G a_t a_t_row a_t_request u2.1 t_requestLength t_faults t_withBinaries t_withAnalogs t_withEvents u2.2)) (w1 := (wdX0_put G a_t a_t_row a_t_request u3.1 t_requestLength t_faults t_withBinaries t_withAnalogs t_withEvents u3.2)) (w2 := (wdX0_putEventHead G a_t a_t_row a_t_request u3.1 t_requestLength t_faults t_withBinaries t_withAnalogs t_withEvents u3.2)) (va_runV (As := [.int (0 : Int32)]) (rest := []) ⟨hx, hb, hml, hown, hts⟩ (mX0_put l G a_t a_t_row a_t_request t_requestLength t_faults t_withBinaries t_withAnalogs t_withEvents (0 : Int32) u2.1 u2.2 H.size u3 hu3) ⟨(callB_of 1 hts (bgIn kw619) rfl rfl rfl (hB _ kw50) (hB _ kw616) hdX0_put ⟨(Nat.le_of_ble_eq_true rfl), (Nat.le_of_ble_eq_true rfl)⟩), hB _ kw617, hB _ kw618⟩ (gPreV (ci := 0) (qr := 0) hK hPc hDc rfl rfl rfl) rfl rfl hl.1 rfl (lv_room (Nat.le_of_ble_eq_true rfl)) dX0_putEventHead_35 ⟨(Nat.le_of_ble_eq_true rfl), (Nat.le_of_ble_eq_true rfl)⟩) hP hD hS hA [0, 1] rfl rfl [.inr 0, .inr 1] rfl rfl (fun H locs hP hD hS => ?_)
  obtain rfl := Option.some.inj h
  exact W.vret hx hb hr (fun t ht hW => ⟨⟨(), rfl, trivial, by rw [ht]; exact hP, hD⟩, hS.F ht⟩) hS.2.2 dX0_putEventHead_38
noncomputable def fX0_putEventHead_L11 (x1 : Int32) (s0 : Int32) (t_length : Int32) (t_row : Nat → Int32) : Option (Int32 × (Nat → Int32)) := bnd (fX0_put s0 t_length t_row) (fun u1 => brc (x1 = 0) (fX0_putEventHead_L24 (1 : Int32) u1.1 u1.2) (fX0_putEventHead_L24 (2 : Int32) u1.1 u1.2))
set_option maxHeartbeats 4000000 in
set_option maxRecDepth 100000 in
theorem wX0_putEventHead_L11 {p : Program} {l : Launch} {e : Env} {s : State} {m : MethodId} {args : Array Value} {below : List Frame} {meth : Method} {c : Code} {G : GT} {A : Nat → Prop} (C : cxt p s m args meth c cX0_putEventHead none 2 "OutStation$Answer" wsX0_putEventHead G A) {a_t : Nat} {a_t_row : Nat} {a_t_request : Nat} {t_requestLength : Int32} {t_faults : Int32} {t_withBinaries : Int32} {t_withAnalogs : Int32} {t_withEvents : Int32} {out : Int32 × (Nat → Int32)} : ∀ (x1 : Int32) (s0 : Int32) (t_length : Int32) (t_row : Nat → Int32) (H : Heap) (locs : List Loc) (ls : Array Slot), fX0_putEventHead_L11 x1 s0 t_length t_row = some out → va_P G.1 vwCl (wdX0_putEventHead G a_t a_t_row a_t_request t_length t_requestLength t_faults t_withBinaries t_withAnalogs t_withEvents t_row) H → va_D A (wdX0_putEventHead G a_t a_t_row a_t_request t_length t_requestLength t_faults t_withBinaries t_withAnalogs t_withEvents t_row) → va_S A s.heap H locs → lv_has ls 2 [(0, .ref a_t), (1, .int x1)] → W p l e rmX0_putEventHead s m args below meth c H locs 0 0 (MQ below (gQv G A (wdX0_putEventHead G a_t a_t_row a_t_request out.1 t_requestLength t_faults t_withBinaries t_withAnalogs t_withEvents out.2)) args s 0 0 A) (F0 m 11 ls [.int s0, .ref a_t]) := by
  obtain ⟨hx, hb, hr, hml, hown, hts, hlocks, hA, hK⟩ := id C
  have hB : ∀ w ∈ BG, w.before args s = true := fun w h => hts w (List.mem_cons_of_mem _ h)
  intro x1 s0 t_length t_row H locs ls h hP hD hS hl
  unfold fX0_putEventHead_L11 at h
  obtain ⟨u1, hu1, h⟩ := bnd_some h
  have hPc := hP.sub (ws' := (wdX0_put G a_t a_t_row a_t_request t_length t_requestLength t_faults t_withBinaries t_withAnalogs t_withEvents t_row)) [0, 1] rfl
  have hDc := hD.sub (ws' := (wdX0_put G a_t a_t_row a_t_request t_length t_requestLength t_faults t_withBinaries t_withAnalogs t_withEvents t_row)) [0, 1] (by decide) rfl
  refine g_v (wc := (wdX0_put G a_t a_t_row a_t_request t_length t_requestLength t_faults t_withBinaries t_withAnalogs t_withEvents t_row)) (w1 := (wdX0_put G a_t a_t_row a_t_request u1.1 t_requestLength t_faults t_withBinaries t_withAnalogs t_withEvents u1.2)) (w2 := (wdX0_putEventHead G a_t a_t_row a_t_request u1.1 t_requestLength t_faults t_withBinaries t_withAnalogs t_withEvents u1.2)) (va_runV (As := [.int s0]) (rest := []) ⟨hx, hb, hml, hown, hts⟩ (mX0_put l G a_t a_t_row a_t_request t_requestLength t_faults t_withBinaries t_withAnalogs t_withEvents s0 t_length t_row H.size u1 hu1) ⟨(callB_of 1 hts (bgIn kw619) rfl rfl rfl (hB _ kw50) (hB _ kw616) hdX0_put ⟨(Nat.le_of_ble_eq_true rfl), (Nat.le_of_ble_eq_true rfl)⟩), hB _ kw617, hB _ kw618⟩ (gPreV (ci := 0) (qr := 0) hK hPc hDc rfl rfl rfl) rfl rfl hl.1 rfl (lv_room (Nat.le_of_ble_eq_true rfl)) dX0_putEventHead_11 ⟨(Nat.le_of_ble_eq_true rfl), (Nat.le_of_ble_eq_true rfl)⟩) hP hD hS hA [0, 1] rfl rfl [.inr 0, .inr 1] rfl rfl (fun H locs hP hD hS => ?_)
  refine lv_aload_n hx hb dX0_putEventHead_14 rfl (lv_at hl 0 rfl) ?_
  refine lv_iload_n hx hb dX0_putEventHead_15 rfl (lv_at hl 1 rfl) ?_
  refine lv_if_ne (tgt := 23) hx hb dX0_putEventHead_16 (by decide) (fun hc16 => ?_) (fun hc16 => ?_)
  · have h := brc_ff h hc16
    refine lv_iconst (v := (2 : Int32)) hx hb dX0_putEventHead_23 (by decide) ?_
    exact wX0_putEventHead_L24 C (2 : Int32) u1.1 u1.2 _ _ _ h hP hD hS (lv_sub hl [0] rfl)
  · have h := brc_tt h hc16
    refine lv_iconst (v := (1 : Int32)) hx hb dX0_putEventHead_19 (by decide) ?_
    refine lv_goto (tgt := 24) hx hb dX0_putEventHead_20 (by decide) ?_
    exact wX0_putEventHead_L24 C (1 : Int32) u1.1 u1.2 _ _ _ h hP hD hS (lv_sub hl [0] rfl)
noncomputable def fX0_putEventHead (x1 : Int32) (t_length : Int32) (t_row : Nat → Int32) : Option (Int32 × (Nat → Int32)) := brc (x1 = 0) (fX0_putEventHead_L11 x1 (2 : Int32) t_length t_row) (fX0_putEventHead_L11 x1 (32 : Int32) t_length t_row)
set_option maxHeartbeats 4000000 in
set_option maxRecDepth 100000 in
theorem wX0_putEventHead_E {p : Program} {l : Launch} {e : Env} {s : State} {m : MethodId} {args : Array Value} {below : List Frame} {meth : Method} {c : Code} {G : GT} {A : Nat → Prop} (C : cxt p s m args meth c cX0_putEventHead none 2 "OutStation$Answer" wsX0_putEventHead G A) {a_t : Nat} {a_t_row : Nat} {a_t_request : Nat} {t_requestLength : Int32} {t_faults : Int32} {t_withBinaries : Int32} {t_withAnalogs : Int32} {t_withEvents : Int32} {out : Int32 × (Nat → Int32)} : ∀ (x1 : Int32) (t_length : Int32) (t_row : Nat → Int32) (H : Heap) (locs : List Loc) (ls : Array Slot), fX0_putEventHead x1 t_length t_row = some out → va_P G.1 vwCl (wdX0_putEventHead G a_t a_t_row a_t_request t_length t_requestLength t_faults t_withBinaries t_withAnalogs t_withEvents t_row) H → va_D A (wdX0_putEventHead G a_t a_t_row a_t_request t_length t_requestLength t_faults t_withBinaries t_withAnalogs t_withEvents t_row) → va_S A s.heap H locs → lv_has ls 2 [(0, .ref a_t), (1, .int x1)] → W p l e rmX0_putEventHead s m args below meth c H locs 0 0 (MQ below (gQv G A (wdX0_putEventHead G a_t a_t_row a_t_request out.1 t_requestLength t_faults t_withBinaries t_withAnalogs t_withEvents out.2)) args s 0 0 A) (F0 m 0 ls []) := by
  obtain ⟨hx, hb, hr, hml, hown, hts, hlocks, hA, hK⟩ := id C
  have hB : ∀ w ∈ BG, w.before args s = true := fun w h => hts w (List.mem_cons_of_mem _ h)
  intro x1 t_length t_row H locs ls h hP hD hS hl
  unfold fX0_putEventHead at h
  refine lv_aload_n hx hb dX0_putEventHead_0 rfl (lv_at hl 0 rfl) ?_
  refine lv_iload_n hx hb dX0_putEventHead_1 rfl (lv_at hl 1 rfl) ?_
  refine lv_if_ne (tgt := 9) hx hb dX0_putEventHead_2 (by decide) (fun hc2 => ?_) (fun hc2 => ?_)
  · have h := brc_ff h hc2
    refine lv_bipush (v := (32 : Int32)) hx hb dX0_putEventHead_9 (by decide) ?_
    exact wX0_putEventHead_L11 C x1 (32 : Int32) t_length t_row _ _ _ h hP hD hS (lv_sub hl [0, 1] rfl)
  · have h := brc_tt h hc2
    refine lv_iconst (v := (2 : Int32)) hx hb dX0_putEventHead_5 (by decide) ?_
    refine lv_goto (tgt := 11) hx hb dX0_putEventHead_6 (by decide) ?_
    exact wX0_putEventHead_L11 C x1 (2 : Int32) t_length t_row _ _ _ h hP hD hS (lv_sub hl [0, 1] rfl)
set_option maxHeartbeats 4000000 in
set_option maxRecDepth 100000 in
theorem mX0_putEventHead (l : Launch) (G : GT) (a_t : Nat) (a_t_row : Nat) (a_t_request : Nat) (t_requestLength : Int32) (t_faults : Int32) (t_withBinaries : Int32) (t_withAnalogs : Int32) (t_withEvents : Int32) (x1 : Int32) (t_length : Int32) (t_row : Nat → Int32) (sz : Nat) (out : Int32 × (Nat → Int32)) (h : fX0_putEventHead x1 t_length t_row = some out) : Met l yX0_putEventHead wsX0_putEventHead rmX0_putEventHead (gPc G [.ref a_t, .int x1] sz (wdX0_putEventHead G a_t a_t_row a_t_request t_length t_requestLength t_faults t_withBinaries t_withAnalogs t_withEvents t_row)) (gQv G (va_A (wdX0_putEventHead G a_t a_t_row a_t_request t_length t_requestLength t_faults t_withBinaries t_withAnalogs t_withEvents t_row) sz) (wdX0_putEventHead G a_t a_t_row a_t_request out.1 t_requestLength t_faults t_withBinaries t_withAnalogs t_withEvents out.2)) 0 0 (va_A (wdX0_putEventHead G a_t a_t_row a_t_request t_length t_requestLength t_faults t_withBinaries t_withAnalogs t_withEvents t_row) sz) := by
  refine Met.ofW (cc := cX0_putEventHead) (maxL := 2) (ret := none) (by decide) rfl ?_
  intro p e s m args below meth c s₁ B hml hv
  obtain ⟨rfl, hsz, hP, hK, hD0⟩ := hv
  have hts := atoms_spec (ws := wsX0_putEventHead) B.pre
  have hown : s.vm.findClass "OutStation$Answer" = some m.cls := findClass_of_methodNamed B.named
  subst hsz
  have hD := hD0.self (sz := s.heap.size)
  generalize hAe : va_A (wdX0_putEventHead G a_t a_t_row a_t_request t_length t_requestLength t_faults t_withBinaries t_withAnalogs t_withEvents t_row) s.heap.size = A at hD ⊢
  have hA : ∀ q : Nat, s.heap.size ≤ q → A q := fun q h => by rw [← hAe]; exact Or.inr h
  have hS : va_S A s.heap s.heap [] := va_S.rf
  have hl := lv_entry ([.ref a_t, .int x1]) (n := 2) (Nat.le_of_ble_eq_true rfl)
  rw [lg_entry_eq]
  generalize (lg_sl ([.ref a_t, .int x1]) ++ List.replicate (2 - (lg_sl ([.ref a_t, .int x1])).length) Slot.unset).toArray = ls at hl ⊢
  exact wX0_putEventHead_E ⟨B.exec, B.bytes, B.returns, hml, hown, hts, B.notSynchronized, hA, hK⟩ x1 t_length t_row _ _ _ h hP hD hS hl
/-! ### OutStation$Answer.putEvent (III)V -/
abbrev wdX0_putEvent (G : GT) (a_t : Nat) (a_t_row : Nat) (a_t_request : Nat) (t_length : Int32) (t_requestLength : Int32) (t_faults : Int32) (t_withBinaries : Int32) (t_withAnalogs : Int32) (t_withEvents : Int32) (t_row : Nat → Int32) : va_W := [(a_t, .inr (0, [.ref a_t_row, .int t_length, .ref a_t_request, .int t_requestLength, .int t_faults, .int t_withBinaries, .int t_withAnalogs, .int t_withEvents])), (a_t_row, .inl (G.2.1, 250, .inl t_row))]
abbrev wsX0_putEvent : List Cond := .code yX0_putEvent cX0_putEvent 4 none :: BG
abbrev rmX0_putEvent : Room := { frames := 1, cells := 0, slots := 0, locals := 21 }
noncomputable def fX0_putEvent_L38 (t_length : Int32) (t_row : Nat → Int32) : Option (Int32 × (Nat → Int32)) := some (t_length, t_row)
set_option maxHeartbeats 4000000 in
set_option maxRecDepth 100000 in
theorem wX0_putEvent_L38 {p : Program} {l : Launch} {e : Env} {s : State} {m : MethodId} {args : Array Value} {below : List Frame} {meth : Method} {c : Code} {G : GT} {A : Nat → Prop} (C : cxt p s m args meth c cX0_putEvent none 4 "OutStation$Answer" wsX0_putEvent G A) {a_t : Nat} {a_t_row : Nat} {a_t_request : Nat} {t_requestLength : Int32} {t_faults : Int32} {t_withBinaries : Int32} {t_withAnalogs : Int32} {t_withEvents : Int32} {out : Int32 × (Nat → Int32)} : ∀ (t_length : Int32) (t_row : Nat → Int32) (H : Heap) (locs : List Loc) (ls : Array Slot), fX0_putEvent_L38 t_length t_row = some out → va_P G.1 vwCl (wdX0_putEvent G a_t a_t_row a_t_request t_length t_requestLength t_faults t_withBinaries t_withAnalogs t_withEvents t_row) H → va_D A (wdX0_putEvent G a_t a_t_row a_t_request t_length t_requestLength t_faults t_withBinaries t_withAnalogs t_withEvents t_row) → va_S A s.heap H locs → lv_has ls 4 [] → W p l e rmX0_putEvent s m args below meth c H locs 0 0 (MQ below (gQv G A (wdX0_putEvent G a_t a_t_row a_t_request out.1 t_requestLength t_faults t_withBinaries t_withAnalogs t_withEvents out.2)) args s 0 0 A) (F0 m 38 ls []) := by
  obtain ⟨hx, hb, hr, hml, hown, hts, hlocks, hA, hK⟩ := id C
  have hB : ∀ w ∈ BG, w.before args s = true := fun w h => hts w (List.mem_cons_of_mem _ h)
  intro t_length t_row H locs ls h hP hD hS hl
  unfold fX0_putEvent_L38 at h
  obtain rfl := Option.some.inj h
  exact W.vret hx hb hr (fun t ht hW => ⟨⟨(), rfl, trivial, by rw [ht]; exact hP, hD⟩, hS.F ht⟩) hS.2.2 dX0_putEvent_38
noncomputable def fX0_putEvent (x1 : Int32) (x2 : Int32) (x3 : Int32) (t_length : Int32) (t_row : Nat → Int32) : Option (Int32 × (Nat → Int32)) := bnd (fX0_put x2 t_length t_row) (fun u1 => brc (x1 = 0) (bnd (fX0_binaryByte x3) (fun u5 => bnd (fX0_put u5 u1.1 u1.2) (fun u6 => fX0_putEvent_L38 u6.1 u6.2))) (bnd (fX0_put (1 : Int32) u1.1 u1.2) (fun u2 => bnd (fX0_put x3 u2.1 u2.2) (fun u3 => bnd (fX0_put (x3 >>> ((8 : Int32) &&& 31)) u3.1 u3.2) (fun u4 => fX0_putEvent_L38 u4.1 u4.2)))))
set_option maxHeartbeats 4000000 in
set_option maxRecDepth 100000 in
theorem wX0_putEvent_E {p : Program} {l : Launch} {e : Env} {s : State} {m : MethodId} {args : Array Value} {below : List Frame} {meth : Method} {c : Code} {G : GT} {A : Nat → Prop} (C : cxt p s m args meth c cX0_putEvent none 4 "OutStation$Answer" wsX0_putEvent G A) {a_t : Nat} {a_t_row : Nat} {a_t_request : Nat} {t_requestLength : Int32} {t_faults : Int32} {t_withBinaries : Int32} {t_withAnalogs : Int32} {t_withEvents : Int32} {out : Int32 × (Nat → Int32)} : ∀ (x1 : Int32) (x2 : Int32) (x3 : Int32) (t_length : Int32) (t_row : Nat → Int32) (H : Heap) (locs : List Loc) (ls : Array Slot), fX0_putEvent x1 x2 x3 t_length t_row = some out → va_P G.1 vwCl (wdX0_putEvent G a_t a_t_row a_t_request t_length t_requestLength t_faults t_withBinaries t_withAnalogs t_withEvents t_row) H → va_D A (wdX0_putEvent G a_t a_t_row a_t_request t_length t_requestLength t_faults t_withBinaries t_withAnalogs t_withEvents t_row) → va_S A s.heap H locs → lv_has ls 4 [(0, .ref a_t), (1, .int x1), (2, .int x2), (3, .int x3)] → W p l e rmX0_putEvent s m args below meth c H locs 0 0 (MQ below (gQv G A (wdX0_putEvent G a_t a_t_row a_t_request out.1 t_requestLength t_faults t_withBinaries t_withAnalogs t_withEvents out.2)) args s 0 0 A) (F0 m 0 ls []) := by
  obtain ⟨hx, hb, hr, hml, hown, hts, hlocks, hA, hK⟩ := id C
  have hB : ∀ w ∈ BG, w.before args s = true := fun w h => hts w (List.mem_cons_of_mem _ h)
  intro x1 x2 x3 t_length t_row H locs ls h hP hD hS hl
  unfold fX0_putEvent at h
  refine lv_aload_n hx hb dX0_putEvent_0 rfl (lv_at hl 0 rfl) ?_
  refine lv_iload_n hx hb dX0_putEvent_1 rfl (lv_at hl 2 rfl) ?_
  obtain ⟨u1, hu1, h⟩ := bnd_some h
  have hPc := hP.sub (ws' := (wdX0_put G a_t a_t_row a_t_request t_length t_requestLength t_faults t_withBinaries t_withAnalogs t_withEvents t_row)) [0, 1] rfl
  have hDc := hD.sub (ws' := (wdX0_put G a_t a_t_row a_t_request t_length t_requestLength t_faults t_withBinaries t_withAnalogs t_withEvents t_row)) [0, 1] (by decide) rfl
  refine g_v (wc := (wdX0_put G a_t a_t_row a_t_request t_length t_requestLength t_faults t_withBinaries t_withAnalogs t_withEvents t_row)) (w1 := (wdX0_put G a_t a_t_row a_t_request u1.1 t_requestLength t_faults t_withBinaries t_withAnalogs t_withEvents u1.2)) (w2 := (wdX0_putEvent G a_t a_t_row a_t_request u1.1 t_requestLength t_faults t_withBinaries t_withAnalogs t_withEvents u1.2)) (va_runV (As := [.int x2]) (rest := []) ⟨hx, hb, hml, hown, hts⟩ (mX0_put l G a_t a_t_row a_t_request t_requestLength t_faults t_withBinaries t_withAnalogs t_withEvents x2 t_length t_row H.size u1 hu1) ⟨(callB_of 1 hts (bgIn kw619) rfl rfl rfl (hB _ kw50) (hB _ kw616) hdX0_put ⟨(Nat.le_of_ble_eq_true rfl), (Nat.le_of_ble_eq_true rfl)⟩), hB _ kw617, hB _ kw618⟩ (gPreV (ci := 0) (qr := 0) hK hPc hDc rfl rfl rfl) rfl rfl hl.1 rfl (lv_room (Nat.le_of_ble_eq_true rfl)) dX0_putEvent_2 ⟨(Nat.le_of_ble_eq_true rfl), (Nat.le_of_ble_eq_true rfl)⟩) hP hD hS hA [0, 1] rfl rfl [.inr 0, .inr 1] rfl rfl (fun H locs hP hD hS => ?_)
  refine lv_iload_n hx hb dX0_putEvent_5 rfl (lv_at hl 1 rfl) ?_
  refine lv_if_ne (tgt := 20) hx hb dX0_putEvent_6 (by decide) (fun hc6 => ?_) (fun hc6 => ?_)
  · have h := brc_ff h hc6
    refine lv_aload_n hx hb dX0_putEvent_20 rfl (lv_at hl 0 rfl) ?_
    refine lv_iconst (v := (1 : Int32)) hx hb dX0_putEvent_21 (by decide) ?_
    obtain ⟨u2, hu2, h⟩ := bnd_some h
    have hPc := hP.sub (ws' := (wdX0_put G a_t a_t_row a_t_request u1.1 t_requestLength t_faults t_withBinaries t_withAnalogs t_withEvents u1.2)) [0, 1] rfl
    have hDc := hD.sub (ws' := (wdX0_put G a_t a_t_row a_t_request u1.1 t_requestLength t_faults t_withBinaries t_withAnalogs t_withEvents u1.2)) [0, 1] (by decide) rfl
    refine g_v (wc := (wdX0_put G a_t a_t_row a_t_request u1.1 t_requestLength t_faults t_withBinaries t_withAnalogs t_withEvents u1.2)) (w1 := (wdX0_put G a_t a_t_row a_t_request u2.1 t_requestLength t_faults t_withBinaries t_withAnalogs t_withEvents u2.2)) (w2 := (wdX0_putEvent G a_t a_t_row a_t_request u2.1 t_requestLength t_faults t_withBinaries t_withAnalogs t_withEvents u2.2)) (va_runV (As := [.int (1 : Int32)]) (rest := []) ⟨hx, hb, hml, hown, hts⟩ (mX0_put l G a_t a_t_row a_t_request t_requestLength t_faults t_withBinaries t_withAnalogs t_withEvents (1 : Int32) u1.1 u1.2 H.size u2 hu2) ⟨(callB_of 1 hts (bgIn kw619) rfl rfl rfl (hB _ kw50) (hB _ kw616) hdX0_put ⟨(Nat.le_of_ble_eq_true rfl), (Nat.le_of_ble_eq_true rfl)⟩), hB _ kw617, hB _ kw618⟩ (gPreV (ci := 0) (qr := 0) hK hPc hDc rfl rfl rfl) rfl rfl hl.1 rfl (lv_room (Nat.le_of_ble_eq_true rfl)) dX0_putEvent_22 ⟨(Nat.le_of_ble_eq_true rfl), (Nat.le_of_ble_eq_true rfl)⟩) hP hD hS hA [0, 1] rfl rfl [.inr 0, .inr 1] rfl rfl (fun H locs hP hD hS => ?_)
    refine lv_aload_n hx hb dX0_putEvent_25 rfl (lv_at hl 0 rfl) ?_
    refine lv_iload_n hx hb dX0_putEvent_26 rfl (lv_at hl 3 rfl) ?_
    obtain ⟨u3, hu3, h⟩ := bnd_some h
    have hPc := hP.sub (ws' := (wdX0_put G a_t a_t_row a_t_request u2.1 t_requestLength t_faults t_withBinaries t_withAnalogs t_withEvents u2.2)) [0, 1] rfl
    have hDc := hD.sub (ws' := (wdX0_put G a_t a_t_row a_t_request u2.1 t_requestLength t_faults t_withBinaries t_withAnalogs t_withEvents u2.2)) [0, 1] (by decide) rfl
    refine g_v (wc := (wdX0_put G a_t a_t_row a_t_request u2.1 t_requestLength t_faults t_withBinaries t_withAnalogs t_withEvents u2.2)) (w1 := (wdX0_put G a_t a_t_row a_t_request u3.1 t_requestLength t_faults t_withBinaries t_withAnalogs t_withEvents u3.2)) (w2 := (wdX0_putEvent G a_t a_t_row a_t_request u3.1 t_requestLength t_faults t_withBinaries t_withAnalogs t_withEvents u3.2)) (va_runV (As := [.int x3]) (rest := []) ⟨hx, hb, hml, hown, hts⟩ (mX0_put l G a_t a_t_row a_t_request t_requestLength t_faults t_withBinaries t_withAnalogs t_withEvents x3 u2.1 u2.2 H.size u3 hu3) ⟨(callB_of 1 hts (bgIn kw619) rfl rfl rfl (hB _ kw50) (hB _ kw616) hdX0_put ⟨(Nat.le_of_ble_eq_true rfl), (Nat.le_of_ble_eq_true rfl)⟩), hB _ kw617, hB _ kw618⟩ (gPreV (ci := 0) (qr := 0) hK hPc hDc rfl rfl rfl) rfl rfl hl.1 rfl (lv_room (Nat.le_of_ble_eq_true rfl)) dX0_putEvent_27 ⟨(Nat.le_of_ble_eq_true rfl), (Nat.le_of_ble_eq_true rfl)⟩) hP hD hS hA [0, 1] rfl rfl [.inr 0, .inr 1] rfl rfl (fun H locs hP hD hS => ?_)
    refine lv_aload_n hx hb dX0_putEvent_30 rfl (lv_at hl 0 rfl) ?_
    refine lv_iload_n hx hb dX0_putEvent_31 rfl (lv_at hl 3 rfl) ?_
    refine lv_bipush (v := (8 : Int32)) hx hb dX0_putEvent_32 (by decide) ?_
    refine lv_ishr hx hb dX0_putEvent_34 ?_
    obtain ⟨u4, hu4, h⟩ := bnd_some h
    have hPc := hP.sub (ws' := (wdX0_put G a_t a_t_row a_t_request u3.1 t_requestLength t_faults t_withBinaries t_withAnalogs t_withEvents u3.2)) [0, 1] rfl
    have hDc := hD.sub (ws' := (wdX0_put G a_t a_t_row a_t_request u3.1 t_requestLength t_faults t_withBinaries t_withAnalogs t_withEvents u3.2)) [0, 1] (by decide) rfl
    refine g_v (wc := (wdX0_put G a_t a_t_row a_t_request u3.1 t_requestLength t_faults t_withBinaries t_withAnalogs t_withEvents u3.2)) (w1 := (wdX0_put G a_t a_t_row a_t_request u4.1 t_requestLength t_faults t_withBinaries t_withAnalogs t_withEvents u4.2)) (w2 := (wdX0_putEvent G a_t a_t_row a_t_request u4.1 t_requestLength t_faults t_withBinaries t_withAnalogs t_withEvents u4.2)) (va_runV (As := [.int (x3 >>> ((8 : Int32) &&& 31))]) (rest := []) ⟨hx, hb, hml, hown, hts⟩ (mX0_put l G a_t a_t_row a_t_request t_requestLength t_faults t_withBinaries t_withAnalogs t_withEvents (x3 >>> ((8 : Int32) &&& 31)) u3.1 u3.2 H.size u4 hu4) ⟨(callB_of 1 hts (bgIn kw619) rfl rfl rfl (hB _ kw50) (hB _ kw616) hdX0_put ⟨(Nat.le_of_ble_eq_true rfl), (Nat.le_of_ble_eq_true rfl)⟩), hB _ kw617, hB _ kw618⟩ (gPreV (ci := 0) (qr := 0) hK hPc hDc rfl rfl rfl) rfl rfl hl.1 rfl (lv_room (Nat.le_of_ble_eq_true rfl)) dX0_putEvent_35 ⟨(Nat.le_of_ble_eq_true rfl), (Nat.le_of_ble_eq_true rfl)⟩) hP hD hS hA [0, 1] rfl rfl [.inr 0, .inr 1] rfl rfl (fun H locs hP hD hS => ?_)
    exact wX0_putEvent_L38 C u4.1 u4.2 _ _ _ h hP hD hS (lv_sub hl [] rfl)
  · have h := brc_tt h hc6
    refine lv_aload_n hx hb dX0_putEvent_9 rfl (lv_at hl 0 rfl) ?_
    refine lv_iload_n hx hb dX0_putEvent_10 rfl (lv_at hl 3 rfl) ?_
    obtain ⟨u5, hu5, h⟩ := bnd_some h
    have hPc := hP.sub (ws' := (wdX0_binaryByte G)) [] rfl
    have hDc := hD.sub (ws' := (wdX0_binaryByte G)) [] (by decide) rfl
    refine g_i (wc := (wdX0_binaryByte G)) (w1 := (wdX0_binaryByte G)) (w2 := (wdX0_putEvent G a_t a_t_row a_t_request u1.1 t_requestLength t_faults t_withBinaries t_withAnalogs t_withEvents u1.2)) (va_runS (As := [.int x3]) (rest := [.ref a_t]) ⟨hx, hb, hml, hown, hts⟩ (mX0_binaryByte l G x3 H.size u5 hu5) ⟨(callB_of 1 hts (bgIn kw626) rfl rfl rfl (hB _ kw50) (hB _ kw624) hdX0_binaryByte ⟨(Nat.le_of_ble_eq_true rfl), (Nat.le_of_ble_eq_true rfl)⟩), hB _ kw625⟩ (gPreS hK hPc hDc) rfl rfl hl.1 rfl (lv_room (Nat.le_of_ble_eq_true rfl)) dX0_putEvent_11 ⟨(Nat.le_of_ble_eq_true rfl), (Nat.le_of_ble_eq_true rfl)⟩) hP hD hS hA [] rfl rfl [.inl 0, .inl 1] rfl rfl (fun H locs hP hD hS => ?_)
    obtain ⟨u6, hu6, h⟩ := bnd_some h
    have hPc := hP.sub (ws' := (wdX0_put G a_t a_t_row a_t_request u1.1 t_requestLength t_faults t_withBinaries t_withAnalogs t_withEvents u1.2)) [0, 1] rfl
    have hDc := hD.sub (ws' := (wdX0_put G a_t a_t_row a_t_request u1.1 t_requestLength t_faults t_withBinaries t_withAnalogs t_withEvents u1.2)) [0, 1] (by decide) rfl
    refine g_v (wc := (wdX0_put G a_t a_t_row a_t_request u1.1 t_requestLength t_faults t_withBinaries t_withAnalogs t_withEvents u1.2)) (w1 := (wdX0_put G a_t a_t_row a_t_request u6.1 t_requestLength t_faults t_withBinaries t_withAnalogs t_withEvents u6.2)) (w2 := (wdX0_putEvent G a_t a_t_row a_t_request u6.1 t_requestLength t_faults t_withBinaries t_withAnalogs t_withEvents u6.2)) (va_runV (As := [.int u5]) (rest := []) ⟨hx, hb, hml, hown, hts⟩ (mX0_put l G a_t a_t_row a_t_request t_requestLength t_faults t_withBinaries t_withAnalogs t_withEvents u5 u1.1 u1.2 H.size u6 hu6) ⟨(callB_of 1 hts (bgIn kw619) rfl rfl rfl (hB _ kw50) (hB _ kw616) hdX0_put ⟨(Nat.le_of_ble_eq_true rfl), (Nat.le_of_ble_eq_true rfl)⟩), hB _ kw617, hB _ kw618⟩ (gPreV (ci := 0) (qr := 0) hK hPc hDc rfl rfl rfl) rfl rfl hl.1 rfl (lv_room (Nat.le_of_ble_eq_true rfl)) dX0_putEvent_14 ⟨(Nat.le_of_ble_eq_true rfl), (Nat.le_of_ble_eq_true rfl)⟩) hP hD hS hA [0, 1] rfl rfl [.inr 0, .inr 1] rfl rfl (fun H locs hP hD hS => ?_)
    refine lv_goto (tgt := 38) hx hb dX0_putEvent_17 (by decide) ?_
    exact wX0_putEvent_L38 C u6.1 u6.2 _ _ _ h hP hD hS (lv_sub hl [] rfl)
set_option maxHeartbeats 4000000 in
set_option maxRecDepth 100000 in
theorem mX0_putEvent (l : Launch) (G : GT) (a_t : Nat) (a_t_row : Nat) (a_t_request : Nat) (t_requestLength : Int32) (t_faults : Int32) (t_withBinaries : Int32) (t_withAnalogs : Int32) (t_withEvents : Int32) (x1 : Int32) (x2 : Int32) (x3 : Int32) (t_length : Int32) (t_row : Nat → Int32) (sz : Nat) (out : Int32 × (Nat → Int32)) (h : fX0_putEvent x1 x2 x3 t_length t_row = some out) : Met l yX0_putEvent wsX0_putEvent rmX0_putEvent (gPc G [.ref a_t, .int x1, .int x2, .int x3] sz (wdX0_putEvent G a_t a_t_row a_t_request t_length t_requestLength t_faults t_withBinaries t_withAnalogs t_withEvents t_row)) (gQv G (va_A (wdX0_putEvent G a_t a_t_row a_t_request t_length t_requestLength t_faults t_withBinaries t_withAnalogs t_withEvents t_row) sz) (wdX0_putEvent G a_t a_t_row a_t_request out.1 t_requestLength t_faults t_withBinaries t_withAnalogs t_withEvents out.2)) 0 0 (va_A (wdX0_putEvent G a_t a_t_row a_t_request t_length t_requestLength t_faults t_withBinaries t_withAnalogs t_withEvents t_row) sz) := by
  refine Met.ofW (cc := cX0_putEvent) (maxL := 4) (ret := none) (by decide) rfl ?_
  intro p e s m args below meth c s₁ B hml hv
  obtain ⟨rfl, hsz, hP, hK, hD0⟩ := hv
  have hts := atoms_spec (ws := wsX0_putEvent) B.pre
  have hown : s.vm.findClass "OutStation$Answer" = some m.cls := findClass_of_methodNamed B.named
  subst hsz
  have hD := hD0.self (sz := s.heap.size)
  generalize hAe : va_A (wdX0_putEvent G a_t a_t_row a_t_request t_length t_requestLength t_faults t_withBinaries t_withAnalogs t_withEvents t_row) s.heap.size = A at hD ⊢
  have hA : ∀ q : Nat, s.heap.size ≤ q → A q := fun q h => by rw [← hAe]; exact Or.inr h
  have hS : va_S A s.heap s.heap [] := va_S.rf
  have hl := lv_entry ([.ref a_t, .int x1, .int x2, .int x3]) (n := 4) (Nat.le_of_ble_eq_true rfl)
  rw [lg_entry_eq]
  generalize (lg_sl ([.ref a_t, .int x1, .int x2, .int x3]) ++ List.replicate (4 - (lg_sl ([.ref a_t, .int x1, .int x2, .int x3])).length) Slot.unset).toArray = ls at hl ⊢
  exact wX0_putEvent_E ⟨B.exec, B.bytes, B.returns, hml, hown, hts, B.notSynchronized, hA, hK⟩ x1 x2 x3 t_length t_row _ _ _ h hP hD hS hl
/-! ### OutStation$Answer.putEvents (LOutStation$EventRow;)V -/
abbrev wdX0_putEvents (G : GT) (a_t : Nat) (a_t_row : Nat) (a_p1 : Nat) (a_p1_answered : Nat) (a_p1_kinds : Nat) (a_p1_numbers : Nat) (a_p1_values : Nat) (a_t_request : Nat) (N_p1 : Nat) (t_length : Int32) (t_requestLength : Int32) (t_faults : Int32) (t_withBinaries : Int32) (t_withAnalogs : Int32) (t_withEvents : Int32) (t_row : Nat → Int32) (p1_most : Int32) (p1_length : Int32) (p1_answered : Nat → Int32) (p1_kinds : Nat → Int32) (p1_numbers : Nat → Int32) (p1_values : Nat → Int32) : va_W := [(a_t, .inr (0, [.ref a_t_row, .int t_length, .ref a_t_request, .int t_requestLength, .int t_faults, .int t_withBinaries, .int t_withAnalogs, .int t_withEvents])), (a_t_row, .inl (G.2.1, 250, .inl t_row)), (a_p1, .inr (2, [.int p1_most, .ref a_p1_kinds, .ref a_p1_numbers, .ref a_p1_values, .ref a_p1_answered, .int p1_length])), (a_p1_answered, .inl (G.2.2.1, N_p1, .inl p1_answered)), (a_p1_kinds, .inl (G.2.1, N_p1, .inl p1_kinds)), (a_p1_numbers, .inl (G.2.1, N_p1, .inl p1_numbers)), (a_p1_values, .inl (G.2.1, N_p1, .inl p1_values))]
abbrev wsX0_putEvents : List Cond := .code yX0_putEvents cX0_putEvents 8 none :: BG
abbrev rmX0_putEvents : Room := { frames := 2, cells := 0, slots := 0, locals := 44 }
noncomputable def fX0_putEvents_L161 (N_p1 : Nat) (p1_length : Int32) (p1_kinds : Nat → Int32) (p1_numbers : Nat → Int32) (p1_values : Nat → Int32) (k_L10 : Int32 → Int32 → Int32 → Int32 → Int32 → Int32 → (Nat → Int32) → (Nat → Int32) → Option (Int32 × Int32 × (Nat → Int32) × (Nat → Int32))) (x2 : Int32) (x3 : Int32) (x4 : Int32) (x5 : Int32) (t_length : Int32) (t_withEvents : Int32) (t_row : Nat → Int32) (p1_answered : Nat → Int32) : Option (Int32 × Int32 × (Nat → Int32) × (Nat → Int32)) := k_L10 x2 x3 x4 (x5 + (1 : Int32)) t_length t_withEvents t_row p1_answered
set_option maxHeartbeats 4000000 in
set_option maxRecDepth 100000 in
theorem wX0_putEvents_L161 {p : Program} {l : Launch} {e : Env} {s : State} {m : MethodId} {args : Array Value} {below : List Frame} {meth : Method} {c : Code} {G : GT} {A : Nat → Prop} (C : cxt p s m args meth c cX0_putEvents none 8 "OutStation$Answer" wsX0_putEvents G A) {a_t : Nat} {a_t_row : Nat} {a_p1 : Nat} {a_p1_answered : Nat} {a_p1_kinds : Nat} {a_p1_numbers : Nat} {a_p1_values : Nat} {a_t_request : Nat} {N_p1 : Nat} {t_requestLength : Int32} {t_faults : Int32} {t_withBinaries : Int32} {t_withAnalogs : Int32} {p1_most : Int32} {p1_length : Int32} {p1_kinds : Nat → Int32} {p1_numbers : Nat → Int32} {p1_values : Nat → Int32} {k_L10 : Int32 → Int32 → Int32 → Int32 → Int32 → Int32 → (Nat → Int32) → (Nat → Int32) → Option (Int32 × Int32 × (Nat → Int32) × (Nat → Int32))} {out : Int32 × Int32 × (Nat → Int32) × (Nat → Int32)} (hk_L10 : ∀ (x2 : Int32) (x3 : Int32) (x4 : Int32) (x5 : Int32) (t_length : Int32) (t_withEvents : Int32) (t_row : Nat → Int32) (p1_answered : Nat → Int32) (H : Heap) (locs : List Loc) (ls : Array Slot), k_L10 x2 x3 x4 x5 t_length t_withEvents t_row p1_answered = some out → va_P G.1 vwCl (wdX0_putEvents G a_t a_t_row a_p1 a_p1_answered a_p1_kinds a_p1_numbers a_p1_values a_t_request N_p1 t_length t_requestLength t_faults t_withBinaries t_withAnalogs t_withEvents t_row p1_most p1_length p1_answered p1_kinds p1_numbers p1_values) H → va_D A (wdX0_putEvents G a_t a_t_row a_p1 a_p1_answered a_p1_kinds a_p1_numbers a_p1_values a_t_request N_p1 t_length t_requestLength t_faults t_withBinaries t_withAnalogs t_withEvents t_row p1_most p1_length p1_answered p1_kinds p1_numbers p1_values) → va_S A s.heap H locs → lv_has ls 8 [(0, .ref a_t), (1, .ref a_p1), (2, .int x2), (3, .int x3), (4, .int x4), (5, .int x5)] → W p l e rmX0_putEvents s m args below meth c H locs 0 0 (MQ below (gQv G A (wdX0_putEvents G a_t a_t_row a_p1 a_p1_answered a_p1_kinds a_p1_numbers a_p1_values a_t_request N_p1 out.1 t_requestLength t_faults t_withBinaries t_withAnalogs out.2.1 out.2.2.1 p1_most p1_length out.2.2.2 p1_kinds p1_numbers p1_values)) args s 0 0 A) (F0 m 10 ls [])) : ∀ (x2 : Int32) (x3 : Int32) (x4 : Int32) (x5 : Int32) (t_length : Int32) (t_withEvents : Int32) (t_row : Nat → Int32) (p1_answered : Nat → Int32) (H : Heap) (locs : List Loc) (ls : Array Slot), fX0_putEvents_L161 N_p1 p1_length p1_kinds p1_numbers p1_values k_L10 x2 x3 x4 x5 t_length t_withEvents t_row p1_answered = some out → va_P G.1 vwCl (wdX0_putEvents G a_t a_t_row a_p1 a_p1_answered a_p1_kinds a_p1_numbers a_p1_values a_t_request N_p1 t_length t_requestLength t_faults t_withBinaries t_withAnalogs t_withEvents t_row p1_most p1_length p1_answered p1_kinds p1_numbers p1_values) H → va_D A (wdX0_putEvents G a_t a_t_row a_p1 a_p1_answered a_p1_kinds a_p1_numbers a_p1_values a_t_request N_p1 t_length t_requestLength t_faults t_withBinaries t_withAnalogs t_withEvents t_row p1_most p1_length p1_answered p1_kinds p1_numbers p1_values) → va_S A s.heap H locs → lv_has ls 8 [(0, .ref a_t), (1, .ref a_p1), (2, .int x2), (3, .int x3), (4, .int x4), (5, .int x5)] → W p l e rmX0_putEvents s m args below meth c H locs 0 0 (MQ below (gQv G A (wdX0_putEvents G a_t a_t_row a_p1 a_p1_answered a_p1_kinds a_p1_numbers a_p1_values a_t_request N_p1 out.1 t_requestLength t_faults t_withBinaries t_withAnalogs out.2.1 out.2.2.1 p1_most p1_length out.2.2.2 p1_kinds p1_numbers p1_values)) args s 0 0 A) (F0 m 161 ls []) := by
  obtain ⟨hx, hb, hr, hml, hown, hts, hlocks, hA, hK⟩ := id C
  have hB : ∀ w ∈ BG, w.before args s = true := fun w h => hts w (List.mem_cons_of_mem _ h)
  intro x2 x3 x4 x5 t_length t_withEvents t_row p1_answered H locs ls h hP hD hS hl
  unfold fX0_putEvents_L161 at h
  refine lv_iinc (v := (x5 + (1 : Int32))) (lv' := [(5, .int (x5 + (1 : Int32))), (0, .ref a_t), (1, .ref a_p1), (2, .int x2), (3, .int x3), (4, .int x4)]) hx hb dX0_putEvents_161 hl (k := 5) rfl rfl (by decide) rfl (fun ls hl => ?_)
  refine lv_goto (tgt := 10) hx hb dX0_putEvents_164 (by decide) ?_
  exact hk_L10 x2 x3 x4 (x5 + (1 : Int32)) t_length t_withEvents t_row p1_answered _ _ _ h hP hD hS (lv_sub hl [1, 2, 3, 4, 5, 0] rfl)
noncomputable def fX0_putEvents_L118 (N_p1 : Nat) (p1_length : Int32) (p1_kinds : Nat → Int32) (p1_numbers : Nat → Int32) (p1_values : Nat → Int32) (k_L10 : Int32 → Int32 → Int32 → Int32 → Int32 → Int32 → (Nat → Int32) → (Nat → Int32) → Option (Int32 × Int32 × (Nat → Int32) × (Nat → Int32))) (x2 : Int32) (x3 : Int32) (x4 : Int32) (x5 : Int32) (t_length : Int32) (t_withEvents : Int32) (t_row : Nat → Int32) (p1_answered : Nat → Int32) : Option (Int32 × Int32 × (Nat → Int32) × (Nat → Int32)) := grd (vp_in ((x4 + (4 : Int32)) - (1 : Int32)) 250) (bnd (fX2_numberAt N_p1 p1_numbers x5) (fun u2 => bnd (fX2_valueAt N_p1 p1_values x5) (fun u3 => bnd (fX0_putEvent x2 u2 u3 t_length (upd t_row (ix ((x4 + (4 : Int32)) - (1 : Int32))) (x3 + (1 : Int32)))) (fun u4 => bnd (fX2_markAnswered N_p1 x5 p1_answered) (fun u5 => fX0_putEvents_L161 N_p1 p1_length p1_kinds p1_numbers p1_values k_L10 x2 (x3 + (1 : Int32)) x4 x5 u4.1 (1 : Int32) u4.2 u5)))))
set_option maxHeartbeats 4000000 in
set_option maxRecDepth 100000 in
theorem wX0_putEvents_L118 {p : Program} {l : Launch} {e : Env} {s : State} {m : MethodId} {args : Array Value} {below : List Frame} {meth : Method} {c : Code} {G : GT} {A : Nat → Prop} (C : cxt p s m args meth c cX0_putEvents none 8 "OutStation$Answer" wsX0_putEvents G A) {a_t : Nat} {a_t_row : Nat} {a_p1 : Nat} {a_p1_answered : Nat} {a_p1_kinds : Nat} {a_p1_numbers : Nat} {a_p1_values : Nat} {a_t_request : Nat} {N_p1 : Nat} {t_requestLength : Int32} {t_faults : Int32} {t_withBinaries : Int32} {t_withAnalogs : Int32} {p1_most : Int32} {p1_length : Int32} {p1_kinds : Nat → Int32} {p1_numbers : Nat → Int32} {p1_values : Nat → Int32} {k_L10 : Int32 → Int32 → Int32 → Int32 → Int32 → Int32 → (Nat → Int32) → (Nat → Int32) → Option (Int32 × Int32 × (Nat → Int32) × (Nat → Int32))} {out : Int32 × Int32 × (Nat → Int32) × (Nat → Int32)} (hk_L10 : ∀ (x2 : Int32) (x3 : Int32) (x4 : Int32) (x5 : Int32) (t_length : Int32) (t_withEvents : Int32) (t_row : Nat → Int32) (p1_answered : Nat → Int32) (H : Heap) (locs : List Loc) (ls : Array Slot), k_L10 x2 x3 x4 x5 t_length t_withEvents t_row p1_answered = some out → va_P G.1 vwCl (wdX0_putEvents G a_t a_t_row a_p1 a_p1_answered a_p1_kinds a_p1_numbers a_p1_values a_t_request N_p1 t_length t_requestLength t_faults t_withBinaries t_withAnalogs t_withEvents t_row p1_most p1_length p1_answered p1_kinds p1_numbers p1_values) H → va_D A (wdX0_putEvents G a_t a_t_row a_p1 a_p1_answered a_p1_kinds a_p1_numbers a_p1_values a_t_request N_p1 t_length t_requestLength t_faults t_withBinaries t_withAnalogs t_withEvents t_row p1_most p1_length p1_answered p1_kinds p1_numbers p1_values) → va_S A s.heap H locs → lv_has ls 8 [(0, .ref a_t), (1, .ref a_p1), (2, .int x2), (3, .int x3), (4, .int x4), (5, .int x5)] → W p l e rmX0_putEvents s m args below meth c H locs 0 0 (MQ below (gQv G A (wdX0_putEvents G a_t a_t_row a_p1 a_p1_answered a_p1_kinds a_p1_numbers a_p1_values a_t_request N_p1 out.1 t_requestLength t_faults t_withBinaries t_withAnalogs out.2.1 out.2.2.1 p1_most p1_length out.2.2.2 p1_kinds p1_numbers p1_values)) args s 0 0 A) (F0 m 10 ls [])) : ∀ (x2 : Int32) (x3 : Int32) (x4 : Int32) (x5 : Int32) (t_length : Int32) (t_withEvents : Int32) (t_row : Nat → Int32) (p1_answered : Nat → Int32) (H : Heap) (locs : List Loc) (ls : Array Slot), fX0_putEvents_L118 N_p1 p1_length p1_kinds p1_numbers p1_values k_L10 x2 x3 x4 x5 t_length t_withEvents t_row p1_answered = some out → va_P G.1 vwCl (wdX0_putEvents G a_t a_t_row a_p1 a_p1_answered a_p1_kinds a_p1_numbers a_p1_values a_t_request N_p1 t_length t_requestLength t_faults t_withBinaries t_withAnalogs t_withEvents t_row p1_most p1_length p1_answered p1_kinds p1_numbers p1_values) H → va_D A (wdX0_putEvents G a_t a_t_row a_p1 a_p1_answered a_p1_kinds a_p1_numbers a_p1_values a_t_request N_p1 t_length t_requestLength t_faults t_withBinaries t_withAnalogs t_withEvents t_row p1_most p1_length p1_answered p1_kinds p1_numbers p1_values) → va_S A s.heap H locs → lv_has ls 8 [(0, .ref a_t), (1, .ref a_p1), (2, .int x2), (3, .int x3), (4, .int x4), (5, .int x5)] → W p l e rmX0_putEvents s m args below meth c H locs 0 0 (MQ below (gQv G A (wdX0_putEvents G a_t a_t_row a_p1 a_p1_answered a_p1_kinds a_p1_numbers a_p1_values a_t_request N_p1 out.1 t_requestLength t_faults t_withBinaries t_withAnalogs out.2.1 out.2.2.1 p1_most p1_length out.2.2.2 p1_kinds p1_numbers p1_values)) args s 0 0 A) (F0 m 118 ls []) := by
  obtain ⟨hx, hb, hr, hml, hown, hts, hlocks, hA, hK⟩ := id C
  have hB : ∀ w ∈ BG, w.before args s = true := fun w h => hts w (List.mem_cons_of_mem _ h)
  intro x2 x3 x4 x5 t_length t_withEvents t_row p1_answered H locs ls h hP hD hS hl
  unfold fX0_putEvents_L118 at h
  refine lv_iinc (v := (x3 + (1 : Int32))) (lv' := [(3, .int (x3 + (1 : Int32))), (0, .ref a_t), (1, .ref a_p1), (2, .int x2), (4, .int x4), (5, .int x5)]) hx hb dX0_putEvents_118 hl (k := 3) rfl rfl (by decide) rfl (fun ls hl => ?_)
  refine lv_aload_n hx hb dX0_putEvents_121 rfl (lv_at hl 1 rfl) ?_
  refine va_get (D := G.1) (ci := 0) (v := .ref a_t_row) (C := RX0) (T := TX0) (N := 8) hx hb hB iX0 hown hK.1 hP 0 rfl rfl 0 (by decide) (hB _ kw143) (fun _ h9 => h9) rfl dX0_putEvents_122 ?_
  refine lv_iload hx hb dX0_putEvents_125 (lv_at hl 4 rfl) ?_
  refine lv_iconst (v := (4 : Int32)) hx hb dX0_putEvents_127 (by decide) ?_
  refine lv_iadd hx hb dX0_putEvents_128 ?_
  refine lv_iconst (v := (1 : Int32)) hx hb dX0_putEvents_129 (by decide) ?_
  refine lv_isub hx hb dX0_putEvents_130 ?_
  refine lv_iload_n hx hb dX0_putEvents_131 rfl (lv_at hl 0 rfl) ?_
  obtain ⟨hg1, h⟩ := grd_some h
  refine va_iast hx hb hK.1 hP hD hS 1 0 rfl rfl hg1 dX0_putEvents_132 (fun H locs hP hD hS => ?_)
  have hP : va_P G.1 vwCl (wdX0_putEvents G a_t a_t_row a_p1 a_p1_answered a_p1_kinds a_p1_numbers a_p1_values a_t_request N_p1 t_length t_requestLength t_faults t_withBinaries t_withAnalogs t_withEvents (upd t_row (ix ((x4 + (4 : Int32)) - (1 : Int32))) (x3 + (1 : Int32))) p1_most p1_length p1_answered p1_kinds p1_numbers p1_values) H := hP
  have hD : va_D A (wdX0_putEvents G a_t a_t_row a_p1 a_p1_answered a_p1_kinds a_p1_numbers a_p1_values a_t_request N_p1 t_length t_requestLength t_faults t_withBinaries t_withAnalogs t_withEvents (upd t_row (ix ((x4 + (4 : Int32)) - (1 : Int32))) (x3 + (1 : Int32))) p1_most p1_length p1_answered p1_kinds p1_numbers p1_values) := hD
  refine lv_aload_n hx hb dX0_putEvents_133 rfl (lv_at hl 1 rfl) ?_
  refine lv_iload_n hx hb dX0_putEvents_134 rfl (lv_at hl 3 rfl) ?_
  refine lv_aload_n hx hb dX0_putEvents_135 rfl (lv_at hl 2 rfl) ?_
  refine lv_iload hx hb dX0_putEvents_136 (lv_at hl 5 rfl) ?_
  obtain ⟨u2, hu2, h⟩ := bnd_some h
  have hPc := hP.sub (ws' := (wdX2_numberAt G a_p1 a_p1_numbers a_p1_kinds a_p1_values a_p1_answered N_p1 p1_most p1_length p1_numbers)) [2, 5] rfl
  have hDc := hD.sub (ws' := (wdX2_numberAt G a_p1 a_p1_numbers a_p1_kinds a_p1_values a_p1_answered N_p1 p1_most p1_length p1_numbers)) [2, 5] (by decide) rfl
  refine g_i (wc := (wdX2_numberAt G a_p1 a_p1_numbers a_p1_kinds a_p1_values a_p1_answered N_p1 p1_most p1_length p1_numbers)) (w1 := (wdX2_numberAt G a_p1 a_p1_numbers a_p1_kinds a_p1_values a_p1_answered N_p1 p1_most p1_length p1_numbers)) (w2 := (wdX0_putEvents G a_t a_t_row a_p1 a_p1_answered a_p1_kinds a_p1_numbers a_p1_values a_t_request N_p1 t_length t_requestLength t_faults t_withBinaries t_withAnalogs t_withEvents (upd t_row (ix ((x4 + (4 : Int32)) - (1 : Int32))) (x3 + (1 : Int32))) p1_most p1_length p1_answered p1_kinds p1_numbers p1_values)) (va_runV (As := [.int x5]) (rest := [.int x2, .ref a_t]) ⟨hx, hb, hml, hown, hts⟩ (mX2_numberAt l G a_p1 a_p1_numbers a_p1_kinds a_p1_values a_p1_answered N_p1 p1_most p1_length p1_numbers x5 H.size u2 hu2) ⟨(callB_of 1 hts (bgIn kw662) rfl rfl rfl (hB _ kw55) (hB _ kw659) hdX2_numberAt ⟨(Nat.le_of_ble_eq_true rfl), (Nat.le_of_ble_eq_true rfl)⟩), hB _ kw660, hB _ kw661⟩ (gPreV (ci := 2) (qr := 0) hK hPc hDc rfl rfl rfl) rfl rfl hl.1 rfl (lv_room (Nat.le_of_ble_eq_true rfl)) dX0_putEvents_138 ⟨(Nat.le_of_ble_eq_true rfl), (Nat.le_of_ble_eq_true rfl)⟩) hP hD hS hA [2, 5] rfl rfl [.inl 0, .inl 1, .inr 0, .inl 3, .inl 4, .inr 1, .inl 6] rfl rfl (fun H locs hP hD hS => ?_)
  refine lv_aload_n hx hb dX0_putEvents_141 rfl (lv_at hl 2 rfl) ?_
  refine lv_iload hx hb dX0_putEvents_142 (lv_at hl 5 rfl) ?_
  obtain ⟨u3, hu3, h⟩ := bnd_some h
  have hPc := hP.sub (ws' := (wdX2_valueAt G a_p1 a_p1_values a_p1_kinds a_p1_numbers a_p1_answered N_p1 p1_most p1_length p1_values)) [2, 6] rfl
  have hDc := hD.sub (ws' := (wdX2_valueAt G a_p1 a_p1_values a_p1_kinds a_p1_numbers a_p1_answered N_p1 p1_most p1_length p1_values)) [2, 6] (by decide) rfl
  refine g_i (wc := (wdX2_valueAt G a_p1 a_p1_values a_p1_kinds a_p1_numbers a_p1_answered N_p1 p1_most p1_length p1_values)) (w1 := (wdX2_valueAt G a_p1 a_p1_values a_p1_kinds a_p1_numbers a_p1_answered N_p1 p1_most p1_length p1_values)) (w2 := (wdX0_putEvents G a_t a_t_row a_p1 a_p1_answered a_p1_kinds a_p1_numbers a_p1_values a_t_request N_p1 t_length t_requestLength t_faults t_withBinaries t_withAnalogs t_withEvents (upd t_row (ix ((x4 + (4 : Int32)) - (1 : Int32))) (x3 + (1 : Int32))) p1_most p1_length p1_answered p1_kinds p1_numbers p1_values)) (va_runV (As := [.int x5]) (rest := [.int u2, .int x2, .ref a_t]) ⟨hx, hb, hml, hown, hts⟩ (mX2_valueAt l G a_p1 a_p1_values a_p1_kinds a_p1_numbers a_p1_answered N_p1 p1_most p1_length p1_values x5 H.size u3 hu3) ⟨(callB_of 1 hts (bgIn kw666) rfl rfl rfl (hB _ kw55) (hB _ kw663) hdX2_valueAt ⟨(Nat.le_of_ble_eq_true rfl), (Nat.le_of_ble_eq_true rfl)⟩), hB _ kw664, hB _ kw665⟩ (gPreV (ci := 2) (qr := 0) hK hPc hDc rfl rfl rfl) rfl rfl hl.1 rfl (lv_room (Nat.le_of_ble_eq_true rfl)) dX0_putEvents_144 ⟨(Nat.le_of_ble_eq_true rfl), (Nat.le_of_ble_eq_true rfl)⟩) hP hD hS hA [2, 6] rfl rfl [.inl 0, .inl 1, .inr 0, .inl 3, .inl 4, .inl 5, .inr 1] rfl rfl (fun H locs hP hD hS => ?_)
  obtain ⟨u4, hu4, h⟩ := bnd_some h
  have hPc := hP.sub (ws' := (wdX0_putEvent G a_t a_t_row a_t_request t_length t_requestLength t_faults t_withBinaries t_withAnalogs t_withEvents (upd t_row (ix ((x4 + (4 : Int32)) - (1 : Int32))) (x3 + (1 : Int32))))) [0, 1] rfl
  have hDc := hD.sub (ws' := (wdX0_putEvent G a_t a_t_row a_t_request t_length t_requestLength t_faults t_withBinaries t_withAnalogs t_withEvents (upd t_row (ix ((x4 + (4 : Int32)) - (1 : Int32))) (x3 + (1 : Int32))))) [0, 1] (by decide) rfl
  refine g_v (wc := (wdX0_putEvent G a_t a_t_row a_t_request t_length t_requestLength t_faults t_withBinaries t_withAnalogs t_withEvents (upd t_row (ix ((x4 + (4 : Int32)) - (1 : Int32))) (x3 + (1 : Int32))))) (w1 := (wdX0_putEvent G a_t a_t_row a_t_request u4.1 t_requestLength t_faults t_withBinaries t_withAnalogs t_withEvents u4.2)) (w2 := (wdX0_putEvents G a_t a_t_row a_p1 a_p1_answered a_p1_kinds a_p1_numbers a_p1_values a_t_request N_p1 u4.1 t_requestLength t_faults t_withBinaries t_withAnalogs t_withEvents u4.2 p1_most p1_length p1_answered p1_kinds p1_numbers p1_values)) (va_runV (As := [.int x2, .int u2, .int u3]) (rest := []) ⟨hx, hb, hml, hown, hts⟩ (mX0_putEvent l G a_t a_t_row a_t_request t_requestLength t_faults t_withBinaries t_withAnalogs t_withEvents x2 u2 u3 t_length (upd t_row (ix ((x4 + (4 : Int32)) - (1 : Int32))) (x3 + (1 : Int32))) H.size u4 hu4) ⟨(callB_of 3 hts (bgIn kw670) rfl rfl rfl (hB _ kw50) (hB _ kw667) hdX0_putEvent ⟨(Nat.le_of_ble_eq_true rfl), (Nat.le_of_ble_eq_true rfl)⟩), hB _ kw669, hB _ kw23⟩ (gPreV (ci := 0) (qr := 0) hK hPc hDc rfl rfl rfl) rfl rfl hl.1 rfl (lv_room (Nat.le_of_ble_eq_true rfl)) dX0_putEvents_147 ⟨(Nat.le_of_ble_eq_true rfl), (Nat.le_of_ble_eq_true rfl)⟩) hP hD hS hA [0, 1] rfl rfl [.inr 0, .inr 1, .inl 2, .inl 3, .inl 4, .inl 5, .inl 6] rfl rfl (fun H locs hP hD hS => ?_)
  refine lv_aload_n hx hb dX0_putEvents_150 rfl (lv_at hl 2 rfl) ?_
  refine lv_iload hx hb dX0_putEvents_151 (lv_at hl 5 rfl) ?_
  obtain ⟨u5, hu5, h⟩ := bnd_some h
  have hPc := hP.sub (ws' := (wdX2_markAnswered G a_p1 a_p1_answered a_p1_kinds a_p1_numbers a_p1_values N_p1 p1_most p1_length p1_answered)) [2, 3] rfl
  have hDc := hD.sub (ws' := (wdX2_markAnswered G a_p1 a_p1_answered a_p1_kinds a_p1_numbers a_p1_values N_p1 p1_most p1_length p1_answered)) [2, 3] (by decide) rfl
  refine g_v (wc := (wdX2_markAnswered G a_p1 a_p1_answered a_p1_kinds a_p1_numbers a_p1_values N_p1 p1_most p1_length p1_answered)) (w1 := (wdX2_markAnswered G a_p1 a_p1_answered a_p1_kinds a_p1_numbers a_p1_values N_p1 p1_most p1_length u5)) (w2 := (wdX0_putEvents G a_t a_t_row a_p1 a_p1_answered a_p1_kinds a_p1_numbers a_p1_values a_t_request N_p1 u4.1 t_requestLength t_faults t_withBinaries t_withAnalogs t_withEvents u4.2 p1_most p1_length u5 p1_kinds p1_numbers p1_values)) (va_runV (As := [.int x5]) (rest := []) ⟨hx, hb, hml, hown, hts⟩ (mX2_markAnswered l G a_p1 a_p1_answered a_p1_kinds a_p1_numbers a_p1_values N_p1 p1_most p1_length x5 p1_answered H.size u5 hu5) ⟨(callB_of 1 hts (bgIn kw674) rfl rfl rfl (hB _ kw55) (hB _ kw671) hdX2_markAnswered ⟨(Nat.le_of_ble_eq_true rfl), (Nat.le_of_ble_eq_true rfl)⟩), hB _ kw672, hB _ kw673⟩ (gPreV (ci := 2) (qr := 0) hK hPc hDc rfl rfl rfl) rfl rfl hl.1 rfl (lv_room (Nat.le_of_ble_eq_true rfl)) dX0_putEvents_153 ⟨(Nat.le_of_ble_eq_true rfl), (Nat.le_of_ble_eq_true rfl)⟩) hP hD hS hA [2, 3] rfl rfl [.inl 0, .inl 1, .inr 0, .inr 1, .inl 4, .inl 5, .inl 6] rfl rfl (fun H locs hP hD hS => ?_)
  refine lv_aload_n hx hb dX0_putEvents_156 rfl (lv_at hl 1 rfl) ?_
  refine lv_iconst (v := (1 : Int32)) hx hb dX0_putEvents_157 (by decide) ?_
  refine va_put (D := G.1) (ci := 0) (v := .int (1 : Int32)) (ty := .boolean) (C := RX0) (T := TX0) (N := 8) hx hb hB iX0 tyX0 tyX0_ok nmX0 hown hK.1 hP hD hS 0 rfl rfl 7 (by decide) (hB _ kw150) (fun _ h9 => h9) rfl (by decide +kernel) (isB_nar (Or.inr rfl)) (isB_fit (Or.inr rfl)) (Nat.le_of_ble_eq_true rfl) dX0_putEvents_158 (fun H locs hP hD hS => ?_)
  have hP : va_P G.1 vwCl (wdX0_putEvents G a_t a_t_row a_p1 a_p1_answered a_p1_kinds a_p1_numbers a_p1_values a_t_request N_p1 u4.1 t_requestLength t_faults t_withBinaries t_withAnalogs (1 : Int32) u4.2 p1_most p1_length u5 p1_kinds p1_numbers p1_values) H := hP
  have hD : va_D A (wdX0_putEvents G a_t a_t_row a_p1 a_p1_answered a_p1_kinds a_p1_numbers a_p1_values a_t_request N_p1 u4.1 t_requestLength t_faults t_withBinaries t_withAnalogs (1 : Int32) u4.2 p1_most p1_length u5 p1_kinds p1_numbers p1_values) := hD
  exact wX0_putEvents_L161 C hk_L10 x2 (x3 + (1 : Int32)) x4 x5 u4.1 (1 : Int32) u4.2 u5 _ _ _ h hP hD hS (lv_sub hl [1, 2, 3, 0, 4, 5] rfl)
noncomputable def fX0_putEvents_L86 (N_p1 : Nat) (p1_length : Int32) (p1_kinds : Nat → Int32) (p1_numbers : Nat → Int32) (p1_values : Nat → Int32) (k_L10 : Int32 → Int32 → Int32 → Int32 → Int32 → Int32 → (Nat → Int32) → (Nat → Int32) → Option (Int32 × Int32 × (Nat → Int32) × (Nat → Int32))) (x2 : Int32) (x3 : Int32) (x4 : Int32) (x5 : Int32) (x6 : Int32) (s0 : Int32) (t_length : Int32) (t_withEvents : Int32) (t_row : Nat → Int32) (p1_answered : Nat → Int32) : Option (Int32 × Int32 × (Nat → Int32) × (Nat → Int32)) := bnd (fX0_hasRoom t_length s0) (fun u1 => brc (u1 = 0) (some (t_length, t_withEvents, t_row, p1_answered)) (brc (x6 = 0) (fX0_putEvents_L118 N_p1 p1_length p1_kinds p1_numbers p1_values k_L10 x2 x3 x4 x5 t_length t_withEvents t_row p1_answered) (bnd (fX2_kindAt N_p1 p1_kinds x5) (fun u2 => bnd (fX0_putEventHead u2 t_length t_row) (fun u3 => fX0_putEvents_L118 N_p1 p1_length p1_kinds p1_numbers p1_values k_L10 u2 (0 : Int32) t_length x5 u3.1 t_withEvents u3.2 p1_answered)))))
set_option maxHeartbeats 4000000 in
set_option maxRecDepth 100000 in
theorem wX0_putEvents_L86 {p : Program} {l : Launch} {e : Env} {s : State} {m : MethodId} {args : Array Value} {below : List Frame} {meth : Method} {c : Code} {G : GT} {A : Nat → Prop} (C : cxt p s m args meth c cX0_putEvents none 8 "OutStation$Answer" wsX0_putEvents G A) {a_t : Nat} {a_t_row : Nat} {a_p1 : Nat} {a_p1_answered : Nat} {a_p1_kinds : Nat} {a_p1_numbers : Nat} {a_p1_values : Nat} {a_t_request : Nat} {N_p1 : Nat} {t_requestLength : Int32} {t_faults : Int32} {t_withBinaries : Int32} {t_withAnalogs : Int32} {p1_most : Int32} {p1_length : Int32} {p1_kinds : Nat → Int32} {p1_numbers : Nat → Int32} {p1_values : Nat → Int32} {k_L10 : Int32 → Int32 → Int32 → Int32 → Int32 → Int32 → (Nat → Int32) → (Nat → Int32) → Option (Int32 × Int32 × (Nat → Int32) × (Nat → Int32))} {out : Int32 × Int32 × (Nat → Int32) × (Nat → Int32)} (hk_L10 : ∀ (x2 : Int32) (x3 : Int32) (x4 : Int32) (x5 : Int32) (t_length : Int32) (t_withEvents : Int32) (t_row : Nat → Int32) (p1_answered : Nat → Int32) (H : Heap) (locs : List Loc) (ls : Array Slot), k_L10 x2 x3 x4 x5 t_length t_withEvents t_row p1_answered = some out → va_P G.1 vwCl (wdX0_putEvents G a_t a_t_row a_p1 a_p1_answered a_p1_kinds a_p1_numbers a_p1_values a_t_request N_p1 t_length t_requestLength t_faults t_withBinaries t_withAnalogs t_withEvents t_row p1_most p1_length p1_answered p1_kinds p1_numbers p1_values) H → va_D A (wdX0_putEvents G a_t a_t_row a_p1 a_p1_answered a_p1_kinds a_p1_numbers a_p1_values a_t_request N_p1 t_length t_requestLength t_faults t_withBinaries t_withAnalogs t_withEvents t_row p1_most p1_length p1_answered p1_kinds p1_numbers p1_values) → va_S A s.heap H locs → lv_has ls 8 [(0, .ref a_t), (1, .ref a_p1), (2, .int x2), (3, .int x3), (4, .int x4), (5, .int x5)] → W p l e rmX0_putEvents s m args below meth c H locs 0 0 (MQ below (gQv G A (wdX0_putEvents G a_t a_t_row a_p1 a_p1_answered a_p1_kinds a_p1_numbers a_p1_values a_t_request N_p1 out.1 t_requestLength t_faults t_withBinaries t_withAnalogs out.2.1 out.2.2.1 p1_most p1_length out.2.2.2 p1_kinds p1_numbers p1_values)) args s 0 0 A) (F0 m 10 ls [])) : ∀ (x2 : Int32) (x3 : Int32) (x4 : Int32) (x5 : Int32) (x6 : Int32) (s0 : Int32) (t_length : Int32) (t_withEvents : Int32) (t_row : Nat → Int32) (p1_answered : Nat → Int32) (H : Heap) (locs : List Loc) (ls : Array Slot), fX0_putEvents_L86 N_p1 p1_length p1_kinds p1_numbers p1_values k_L10 x2 x3 x4 x5 x6 s0 t_length t_withEvents t_row p1_answered = some out → va_P G.1 vwCl (wdX0_putEvents G a_t a_t_row a_p1 a_p1_answered a_p1_kinds a_p1_numbers a_p1_values a_t_request N_p1 t_length t_requestLength t_faults t_withBinaries t_withAnalogs t_withEvents t_row p1_most p1_length p1_answered p1_kinds p1_numbers p1_values) H → va_D A (wdX0_putEvents G a_t a_t_row a_p1 a_p1_answered a_p1_kinds a_p1_numbers a_p1_values a_t_request N_p1 t_length t_requestLength t_faults t_withBinaries t_withAnalogs t_withEvents t_row p1_most p1_length p1_answered p1_kinds p1_numbers p1_values) → va_S A s.heap H locs → lv_has ls 8 [(0, .ref a_t), (1, .ref a_p1), (2, .int x2), (3, .int x3), (4, .int x4), (5, .int x5), (6, .int x6)] → W p l e rmX0_putEvents s m args below meth c H locs 0 0 (MQ below (gQv G A (wdX0_putEvents G a_t a_t_row a_p1 a_p1_answered a_p1_kinds a_p1_numbers a_p1_values a_t_request N_p1 out.1 t_requestLength t_faults t_withBinaries t_withAnalogs out.2.1 out.2.2.1 p1_most p1_length out.2.2.2 p1_kinds p1_numbers p1_values)) args s 0 0 A) (F0 m 86 ls [.int s0, .ref a_t]) := by
  obtain ⟨hx, hb, hr, hml, hown, hts, hlocks, hA, hK⟩ := id C
  have hB : ∀ w ∈ BG, w.before args s = true := fun w h => hts w (List.mem_cons_of_mem _ h)
  intro x2 x3 x4 x5 x6 s0 t_length t_withEvents t_row p1_answered H locs ls h hP hD hS hl
  unfold fX0_putEvents_L86 at h
  obtain ⟨u1, hu1, h⟩ := bnd_some h
  have hPc := hP.sub (ws' := (wdX0_hasRoom G a_t a_t_row a_t_request t_length t_requestLength t_faults t_withBinaries t_withAnalogs t_withEvents t_row)) [0, 1] rfl
  have hDc := hD.sub (ws' := (wdX0_hasRoom G a_t a_t_row a_t_request t_length t_requestLength t_faults t_withBinaries t_withAnalogs t_withEvents t_row)) [0, 1] (by decide) rfl
  refine g_i (wc := (wdX0_hasRoom G a_t a_t_row a_t_request t_length t_requestLength t_faults t_withBinaries t_withAnalogs t_withEvents t_row)) (w1 := (wdX0_hasRoom G a_t a_t_row a_t_request t_length t_requestLength t_faults t_withBinaries t_withAnalogs t_withEvents t_row)) (w2 := (wdX0_putEvents G a_t a_t_row a_p1 a_p1_answered a_p1_kinds a_p1_numbers a_p1_values a_t_request N_p1 t_length t_requestLength t_faults t_withBinaries t_withAnalogs t_withEvents t_row p1_most p1_length p1_answered p1_kinds p1_numbers p1_values)) (va_runV (As := [.int s0]) (rest := []) ⟨hx, hb, hml, hown, hts⟩ (mX0_hasRoom l G a_t a_t_row a_t_request t_length t_requestLength t_faults t_withBinaries t_withAnalogs t_withEvents t_row s0 H.size u1 hu1) ⟨(callB_of 1 hts (bgIn kw611) rfl rfl rfl (hB _ kw50) (hB _ kw608) hdX0_hasRoom ⟨(Nat.le_of_ble_eq_true rfl), (Nat.le_of_ble_eq_true rfl)⟩), hB _ kw610, hB _ kw20⟩ (gPreV (ci := 0) (qr := 0) hK hPc hDc rfl rfl rfl) rfl rfl hl.1 rfl (lv_room (Nat.le_of_ble_eq_true rfl)) dX0_putEvents_86 ⟨(Nat.le_of_ble_eq_true rfl), (Nat.le_of_ble_eq_true rfl)⟩) hP hD hS hA [0, 1] rfl rfl [.inr 0, .inr 1, .inl 2, .inl 3, .inl 4, .inl 5, .inl 6] rfl rfl (fun H locs hP hD hS => ?_)
  refine lv_if_ne (tgt := 93) hx hb dX0_putEvents_89 (by decide) (fun hc89 => ?_) (fun hc89 => ?_)
  · have h := brc_ff h hc89
    refine lv_iload hx hb dX0_putEvents_93 (lv_at hl 6 rfl) ?_
    refine lv_if_eq (tgt := 118) hx hb dX0_putEvents_95 (by decide) (fun hc95 => ?_) (fun hc95 => ?_)
    · have h := brc_tt h hc95
      exact wX0_putEvents_L118 C hk_L10 x2 x3 x4 x5 t_length t_withEvents t_row p1_answered _ _ _ h hP hD hS (lv_sub hl [0, 1, 2, 3, 4, 5] rfl)
    · have h := brc_ff h hc95
      refine lv_aload_n hx hb dX0_putEvents_98 rfl (lv_at hl 1 rfl) ?_
      refine lv_iload hx hb dX0_putEvents_99 (lv_at hl 5 rfl) ?_
      obtain ⟨u2, hu2, h⟩ := bnd_some h
      have hPc := hP.sub (ws' := (wdX2_kindAt G a_p1 a_p1_kinds a_p1_numbers a_p1_values a_p1_answered N_p1 p1_most p1_length p1_kinds)) [2, 4] rfl
      have hDc := hD.sub (ws' := (wdX2_kindAt G a_p1 a_p1_kinds a_p1_numbers a_p1_values a_p1_answered N_p1 p1_most p1_length p1_kinds)) [2, 4] (by decide) rfl
      refine g_i (wc := (wdX2_kindAt G a_p1 a_p1_kinds a_p1_numbers a_p1_values a_p1_answered N_p1 p1_most p1_length p1_kinds)) (w1 := (wdX2_kindAt G a_p1 a_p1_kinds a_p1_numbers a_p1_values a_p1_answered N_p1 p1_most p1_length p1_kinds)) (w2 := (wdX0_putEvents G a_t a_t_row a_p1 a_p1_answered a_p1_kinds a_p1_numbers a_p1_values a_t_request N_p1 t_length t_requestLength t_faults t_withBinaries t_withAnalogs t_withEvents t_row p1_most p1_length p1_answered p1_kinds p1_numbers p1_values)) (va_runV (As := [.int x5]) (rest := []) ⟨hx, hb, hml, hown, hts⟩ (mX2_kindAt l G a_p1 a_p1_kinds a_p1_numbers a_p1_values a_p1_answered N_p1 p1_most p1_length p1_kinds x5 H.size u2 hu2) ⟨(callB_of 1 hts (bgIn kw654) rfl rfl rfl (hB _ kw55) (hB _ kw651) hdX2_kindAt ⟨(Nat.le_of_ble_eq_true rfl), (Nat.le_of_ble_eq_true rfl)⟩), hB _ kw652, hB _ kw653⟩ (gPreV (ci := 2) (qr := 0) hK hPc hDc rfl rfl rfl) rfl rfl hl.1 rfl (lv_room (Nat.le_of_ble_eq_true rfl)) dX0_putEvents_101 ⟨(Nat.le_of_ble_eq_true rfl), (Nat.le_of_ble_eq_true rfl)⟩) hP hD hS hA [2, 4] rfl rfl [.inl 0, .inl 1, .inr 0, .inl 3, .inr 1, .inl 5, .inl 6] rfl rfl (fun H locs hP hD hS => ?_)
      refine lv_istore_n (lv' := [(2, .int u2), (0, .ref a_t), (1, .ref a_p1), (3, .int x3), (4, .int x4), (5, .int x5), (6, .int x6)]) hx hb dX0_putEvents_104 rfl hl (by decide) rfl (fun ls hl => ?_)
      refine lv_iconst (v := (0 : Int32)) hx hb dX0_putEvents_105 (by decide) ?_
      refine lv_istore_n (lv' := [(3, .int (0 : Int32)), (2, .int u2), (0, .ref a_t), (1, .ref a_p1), (4, .int x4), (5, .int x5), (6, .int x6)]) hx hb dX0_putEvents_106 rfl hl (by decide) rfl (fun ls hl => ?_)
      refine lv_aload_n hx hb dX0_putEvents_107 rfl (lv_at hl 2 rfl) ?_
      refine va_get (D := G.1) (ci := 0) (v := .int t_length) (C := RX0) (T := TX0) (N := 8) hx hb hB iX0 hown hK.1 hP 0 rfl rfl 1 (by decide) (hB _ kw144) (fun _ h9 => h9) rfl dX0_putEvents_108 ?_
      refine lv_istore (lv' := [(4, .int t_length), (3, .int (0 : Int32)), (2, .int u2), (0, .ref a_t), (1, .ref a_p1), (5, .int x5), (6, .int x6)]) hx hb dX0_putEvents_111 hl (by decide) rfl (fun ls hl => ?_)
      refine lv_aload_n hx hb dX0_putEvents_113 rfl (lv_at hl 3 rfl) ?_
      refine lv_iload_n hx hb dX0_putEvents_114 rfl (lv_at hl 2 rfl) ?_
      obtain ⟨u3, hu3, h⟩ := bnd_some h
      have hPc := hP.sub (ws' := (wdX0_putEventHead G a_t a_t_row a_t_request t_length t_requestLength t_faults t_withBinaries t_withAnalogs t_withEvents t_row)) [0, 1] rfl
      have hDc := hD.sub (ws' := (wdX0_putEventHead G a_t a_t_row a_t_request t_length t_requestLength t_faults t_withBinaries t_withAnalogs t_withEvents t_row)) [0, 1] (by decide) rfl
      refine g_v (wc := (wdX0_putEventHead G a_t a_t_row a_t_request t_length t_requestLength t_faults t_withBinaries t_withAnalogs t_withEvents t_row)) (w1 := (wdX0_putEventHead G a_t a_t_row a_t_request u3.1 t_requestLength t_faults t_withBinaries t_withAnalogs t_withEvents u3.2)) (w2 := (wdX0_putEvents G a_t a_t_row a_p1 a_p1_answered a_p1_kinds a_p1_numbers a_p1_values a_t_request N_p1 u3.1 t_requestLength t_faults t_withBinaries t_withAnalogs t_withEvents u3.2 p1_most p1_length p1_answered p1_kinds p1_numbers p1_values)) (va_runV (As := [.int u2]) (rest := []) ⟨hx, hb, hml, hown, hts⟩ (mX0_putEventHead l G a_t a_t_row a_t_request t_requestLength t_faults t_withBinaries t_withAnalogs t_withEvents u2 t_length t_row H.size u3 hu3) ⟨(callB_of 1 hts (bgIn kw658) rfl rfl rfl (hB _ kw50) (hB _ kw655) hdX0_putEventHead ⟨(Nat.le_of_ble_eq_true rfl), (Nat.le_of_ble_eq_true rfl)⟩), hB _ kw657, hB _ kw22⟩ (gPreV (ci := 0) (qr := 0) hK hPc hDc rfl rfl rfl) rfl rfl hl.1 rfl (lv_room (Nat.le_of_ble_eq_true rfl)) dX0_putEvents_115 ⟨(Nat.le_of_ble_eq_true rfl), (Nat.le_of_ble_eq_true rfl)⟩) hP hD hS hA [0, 1] rfl rfl [.inr 0, .inr 1, .inl 2, .inl 3, .inl 4, .inl 5, .inl 6] rfl rfl (fun H locs hP hD hS => ?_)
      exact wX0_putEvents_L118 C hk_L10 u2 (0 : Int32) t_length x5 u3.1 t_withEvents u3.2 p1_answered _ _ _ h hP hD hS (lv_sub hl [3, 4, 2, 1, 0, 5] rfl)
  · have h := brc_tt h hc89
    obtain rfl := Option.some.inj h
    exact W.vret hx hb hr (fun t ht hW => ⟨⟨(), rfl, trivial, by rw [ht]; exact hP, hD⟩, hS.F ht⟩) hS.2.2 dX0_putEvents_92
noncomputable def fX0_putEvents_L69 (N_p1 : Nat) (p1_length : Int32) (p1_kinds : Nat → Int32) (p1_numbers : Nat → Int32) (p1_values : Nat → Int32) (k_L10 : Int32 → Int32 → Int32 → Int32 → Int32 → Int32 → (Nat → Int32) → (Nat → Int32) → Option (Int32 × Int32 × (Nat → Int32) × (Nat → Int32))) (x2 : Int32) (x3 : Int32) (x4 : Int32) (x5 : Int32) (x6 : Int32) (s0 : Int32) (t_length : Int32) (t_withEvents : Int32) (t_row : Nat → Int32) (p1_answered : Nat → Int32) : Option (Int32 × Int32 × (Nat → Int32) × (Nat → Int32)) := brc (x6 = 0) (fX0_putEvents_L86 N_p1 p1_length p1_kinds p1_numbers p1_values k_L10 x2 x3 x4 x5 x6 s0 t_length t_withEvents t_row p1_answered) (fX0_putEvents_L86 N_p1 p1_length p1_kinds p1_numbers p1_values k_L10 x2 x3 x4 x5 x6 ((4 : Int32) + s0) t_length t_withEvents t_row p1_answered)
set_option maxHeartbeats 4000000 in
set_option maxRecDepth 100000 in
theorem wX0_putEvents_L69 {p : Program} {l : Launch} {e : Env} {s : State} {m : MethodId} {args : Array Value} {below : List Frame} {meth : Method} {c : Code} {G : GT} {A : Nat → Prop} (C : cxt p s m args meth c cX0_putEvents none 8 "OutStation$Answer" wsX0_putEvents G A) {a_t : Nat} {a_t_row : Nat} {a_p1 : Nat} {a_p1_answered : Nat} {a_p1_kinds : Nat} {a_p1_numbers : Nat} {a_p1_values : Nat} {a_t_request : Nat} {N_p1 : Nat} {t_requestLength : Int32} {t_faults : Int32} {t_withBinaries : Int32} {t_withAnalogs : Int32} {p1_most : Int32} {p1_length : Int32} {p1_kinds : Nat → Int32} {p1_numbers : Nat → Int32} {p1_values : Nat → Int32} {k_L10 : Int32 → Int32 → Int32 → Int32 → Int32 → Int32 → (Nat → Int32) → (Nat → Int32) → Option (Int32 × Int32 × (Nat → Int32) × (Nat → Int32))} {out : Int32 × Int32 × (Nat → Int32) × (Nat → Int32)} (hk_L10 : ∀ (x2 : Int32) (x3 : Int32) (x4 : Int32) (x5 : Int32) (t_length : Int32) (t_withEvents : Int32) (t_row : Nat → Int32) (p1_answered : Nat → Int32) (H : Heap) (locs : List Loc) (ls : Array Slot), k_L10 x2 x3 x4 x5 t_length t_withEvents t_row p1_answered = some out → va_P G.1 vwCl (wdX0_putEvents G a_t a_t_row a_p1 a_p1_answered a_p1_kinds a_p1_numbers a_p1_values a_t_request N_p1 t_length t_requestLength t_faults t_withBinaries t_withAnalogs t_withEvents t_row p1_most p1_length p1_answered p1_kinds p1_numbers p1_values) H → va_D A (wdX0_putEvents G a_t a_t_row a_p1 a_p1_answered a_p1_kinds a_p1_numbers a_p1_values a_t_request N_p1 t_length t_requestLength t_faults t_withBinaries t_withAnalogs t_withEvents t_row p1_most p1_length p1_answered p1_kinds p1_numbers p1_values) → va_S A s.heap H locs → lv_has ls 8 [(0, .ref a_t), (1, .ref a_p1), (2, .int x2), (3, .int x3), (4, .int x4), (5, .int x5)] → W p l e rmX0_putEvents s m args below meth c H locs 0 0 (MQ below (gQv G A (wdX0_putEvents G a_t a_t_row a_p1 a_p1_answered a_p1_kinds a_p1_numbers a_p1_values a_t_request N_p1 out.1 t_requestLength t_faults t_withBinaries t_withAnalogs out.2.1 out.2.2.1 p1_most p1_length out.2.2.2 p1_kinds p1_numbers p1_values)) args s 0 0 A) (F0 m 10 ls [])) : ∀ (x2 : Int32) (x3 : Int32) (x4 : Int32) (x5 : Int32) (x6 : Int32) (s0 : Int32) (t_length : Int32) (t_withEvents : Int32) (t_row : Nat → Int32) (p1_answered : Nat → Int32) (H : Heap) (locs : List Loc) (ls : Array Slot), fX0_putEvents_L69 N_p1 p1_length p1_kinds p1_numbers p1_values k_L10 x2 x3 x4 x5 x6 s0 t_length t_withEvents t_row p1_answered = some out → va_P G.1 vwCl (wdX0_putEvents G a_t a_t_row a_p1 a_p1_answered a_p1_kinds a_p1_numbers a_p1_values a_t_request N_p1 t_length t_requestLength t_faults t_withBinaries t_withAnalogs t_withEvents t_row p1_most p1_length p1_answered p1_kinds p1_numbers p1_values) H → va_D A (wdX0_putEvents G a_t a_t_row a_p1 a_p1_answered a_p1_kinds a_p1_numbers a_p1_values a_t_request N_p1 t_length t_requestLength t_faults t_withBinaries t_withAnalogs t_withEvents t_row p1_most p1_length p1_answered p1_kinds p1_numbers p1_values) → va_S A s.heap H locs → lv_has ls 8 [(0, .ref a_t), (1, .ref a_p1), (2, .int x2), (3, .int x3), (4, .int x4), (5, .int x5), (6, .int x6)] → W p l e rmX0_putEvents s m args below meth c H locs 0 0 (MQ below (gQv G A (wdX0_putEvents G a_t a_t_row a_p1 a_p1_answered a_p1_kinds a_p1_numbers a_p1_values a_t_request N_p1 out.1 t_requestLength t_faults t_withBinaries t_withAnalogs out.2.1 out.2.2.1 p1_most p1_length out.2.2.2 p1_kinds p1_numbers p1_values)) args s 0 0 A) (F0 m 69 ls [.int s0]) := by
  obtain ⟨hx, hb, hr, hml, hown, hts, hlocks, hA, hK⟩ := id C
  have hB : ∀ w ∈ BG, w.before args s = true := fun w h => hts w (List.mem_cons_of_mem _ h)
  intro x2 x3 x4 x5 x6 s0 t_length t_withEvents t_row p1_answered H locs ls h hP hD hS hl
  unfold fX0_putEvents_L69 at h
  refine lv_istore (lv' := [(7, .int s0), (0, .ref a_t), (1, .ref a_p1), (2, .int x2), (3, .int x3), (4, .int x4), (5, .int x5), (6, .int x6)]) hx hb dX0_putEvents_69 hl (by decide) rfl (fun ls hl => ?_)
  refine lv_aload_n hx hb dX0_putEvents_71 rfl (lv_at hl 1 rfl) ?_
  refine lv_iload hx hb dX0_putEvents_72 (lv_at hl 7 rfl) ?_
  refine lv_if_eq (tgt := 84) hx hb dX0_putEvents_74 (by decide) (fun hc74 => ?_) (fun hc74 => ?_)
  · have h := brc_tt h hc74
    refine lv_iload hx hb dX0_putEvents_84 (lv_at hl 0 rfl) ?_
    exact wX0_putEvents_L86 C hk_L10 x2 x3 x4 x5 x6 s0 t_length t_withEvents t_row p1_answered _ _ _ h hP hD hS (lv_sub hl [1, 2, 3, 4, 5, 6, 7] rfl)
  · have h := brc_ff h hc74
    refine lv_iconst (v := (4 : Int32)) hx hb dX0_putEvents_77 (by decide) ?_
    refine lv_iload hx hb dX0_putEvents_78 (lv_at hl 0 rfl) ?_
    refine lv_iadd hx hb dX0_putEvents_80 ?_
    refine lv_goto (tgt := 86) hx hb dX0_putEvents_81 (by decide) ?_
    exact wX0_putEvents_L86 C hk_L10 x2 x3 x4 x5 x6 ((4 : Int32) + s0) t_length t_withEvents t_row p1_answered _ _ _ h hP hD hS (lv_sub hl [1, 2, 3, 4, 5, 6, 7] rfl)
noncomputable def fX0_putEvents_L53 (N_p1 : Nat) (p1_length : Int32) (p1_kinds : Nat → Int32) (p1_numbers : Nat → Int32) (p1_values : Nat → Int32) (k_L10 : Int32 → Int32 → Int32 → Int32 → Int32 → Int32 → (Nat → Int32) → (Nat → Int32) → Option (Int32 × Int32 × (Nat → Int32) × (Nat → Int32))) (x2 : Int32) (x3 : Int32) (x4 : Int32) (x5 : Int32) (s0 : Int32) (t_length : Int32) (t_withEvents : Int32) (t_row : Nat → Int32) (p1_answered : Nat → Int32) : Option (Int32 × Int32 × (Nat → Int32) × (Nat → Int32)) := bnd (fX2_kindAt N_p1 p1_kinds x5) (fun u1 => brc (u1 = 0) (fX0_putEvents_L69 N_p1 p1_length p1_kinds p1_numbers p1_values k_L10 x2 x3 x4 x5 s0 (2 : Int32) t_length t_withEvents t_row p1_answered) (fX0_putEvents_L69 N_p1 p1_length p1_kinds p1_numbers p1_values k_L10 x2 x3 x4 x5 s0 (4 : Int32) t_length t_withEvents t_row p1_answered))
set_option maxHeartbeats 4000000 in
set_option maxRecDepth 100000 in
theorem wX0_putEvents_L53 {p : Program} {l : Launch} {e : Env} {s : State} {m : MethodId} {args : Array Value} {below : List Frame} {meth : Method} {c : Code} {G : GT} {A : Nat → Prop} (C : cxt p s m args meth c cX0_putEvents none 8 "OutStation$Answer" wsX0_putEvents G A) {a_t : Nat} {a_t_row : Nat} {a_p1 : Nat} {a_p1_answered : Nat} {a_p1_kinds : Nat} {a_p1_numbers : Nat} {a_p1_values : Nat} {a_t_request : Nat} {N_p1 : Nat} {t_requestLength : Int32} {t_faults : Int32} {t_withBinaries : Int32} {t_withAnalogs : Int32} {p1_most : Int32} {p1_length : Int32} {p1_kinds : Nat → Int32} {p1_numbers : Nat → Int32} {p1_values : Nat → Int32} {k_L10 : Int32 → Int32 → Int32 → Int32 → Int32 → Int32 → (Nat → Int32) → (Nat → Int32) → Option (Int32 × Int32 × (Nat → Int32) × (Nat → Int32))} {out : Int32 × Int32 × (Nat → Int32) × (Nat → Int32)} (hk_L10 : ∀ (x2 : Int32) (x3 : Int32) (x4 : Int32) (x5 : Int32) (t_length : Int32) (t_withEvents : Int32) (t_row : Nat → Int32) (p1_answered : Nat → Int32) (H : Heap) (locs : List Loc) (ls : Array Slot), k_L10 x2 x3 x4 x5 t_length t_withEvents t_row p1_answered = some out → va_P G.1 vwCl (wdX0_putEvents G a_t a_t_row a_p1 a_p1_answered a_p1_kinds a_p1_numbers a_p1_values a_t_request N_p1 t_length t_requestLength t_faults t_withBinaries t_withAnalogs t_withEvents t_row p1_most p1_length p1_answered p1_kinds p1_numbers p1_values) H → va_D A (wdX0_putEvents G a_t a_t_row a_p1 a_p1_answered a_p1_kinds a_p1_numbers a_p1_values a_t_request N_p1 t_length t_requestLength t_faults t_withBinaries t_withAnalogs t_withEvents t_row p1_most p1_length p1_answered p1_kinds p1_numbers p1_values) → va_S A s.heap H locs → lv_has ls 8 [(0, .ref a_t), (1, .ref a_p1), (2, .int x2), (3, .int x3), (4, .int x4), (5, .int x5)] → W p l e rmX0_putEvents s m args below meth c H locs 0 0 (MQ below (gQv G A (wdX0_putEvents G a_t a_t_row a_p1 a_p1_answered a_p1_kinds a_p1_numbers a_p1_values a_t_request N_p1 out.1 t_requestLength t_faults t_withBinaries t_withAnalogs out.2.1 out.2.2.1 p1_most p1_length out.2.2.2 p1_kinds p1_numbers p1_values)) args s 0 0 A) (F0 m 10 ls [])) : ∀ (x2 : Int32) (x3 : Int32) (x4 : Int32) (x5 : Int32) (s0 : Int32) (t_length : Int32) (t_withEvents : Int32) (t_row : Nat → Int32) (p1_answered : Nat → Int32) (H : Heap) (locs : List Loc) (ls : Array Slot), fX0_putEvents_L53 N_p1 p1_length p1_kinds p1_numbers p1_values k_L10 x2 x3 x4 x5 s0 t_length t_withEvents t_row p1_answered = some out → va_P G.1 vwCl (wdX0_putEvents G a_t a_t_row a_p1 a_p1_answered a_p1_kinds a_p1_numbers a_p1_values a_t_request N_p1 t_length t_requestLength t_faults t_withBinaries t_withAnalogs t_withEvents t_row p1_most p1_length p1_answered p1_kinds p1_numbers p1_values) H → va_D A (wdX0_putEvents G a_t a_t_row a_p1 a_p1_answered a_p1_kinds a_p1_numbers a_p1_values a_t_request N_p1 t_length t_requestLength t_faults t_withBinaries t_withAnalogs t_withEvents t_row p1_most p1_length p1_answered p1_kinds p1_numbers p1_values) → va_S A s.heap H locs → lv_has ls 8 [(0, .ref a_t), (1, .ref a_p1), (2, .int x2), (3, .int x3), (4, .int x4), (5, .int x5)] → W p l e rmX0_putEvents s m args below meth c H locs 0 0 (MQ below (gQv G A (wdX0_putEvents G a_t a_t_row a_p1 a_p1_answered a_p1_kinds a_p1_numbers a_p1_values a_t_request N_p1 out.1 t_requestLength t_faults t_withBinaries t_withAnalogs out.2.1 out.2.2.1 p1_most p1_length out.2.2.2 p1_kinds p1_numbers p1_values)) args s 0 0 A) (F0 m 53 ls [.int s0]) := by
  obtain ⟨hx, hb, hr, hml, hown, hts, hlocks, hA, hK⟩ := id C
  have hB : ∀ w ∈ BG, w.before args s = true := fun w h => hts w (List.mem_cons_of_mem _ h)
  intro x2 x3 x4 x5 s0 t_length t_withEvents t_row p1_answered H locs ls h hP hD hS hl
  unfold fX0_putEvents_L53 at h
  refine lv_istore (lv' := [(6, .int s0), (0, .ref a_t), (1, .ref a_p1), (2, .int x2), (3, .int x3), (4, .int x4), (5, .int x5)]) hx hb dX0_putEvents_53 hl (by decide) rfl (fun ls hl => ?_)
  refine lv_aload_n hx hb dX0_putEvents_55 rfl (lv_at hl 2 rfl) ?_
  refine lv_iload hx hb dX0_putEvents_56 (lv_at hl 6 rfl) ?_
  obtain ⟨u1, hu1, h⟩ := bnd_some h
  have hPc := hP.sub (ws' := (wdX2_kindAt G a_p1 a_p1_kinds a_p1_numbers a_p1_values a_p1_answered N_p1 p1_most p1_length p1_kinds)) [2, 4] rfl
  have hDc := hD.sub (ws' := (wdX2_kindAt G a_p1 a_p1_kinds a_p1_numbers a_p1_values a_p1_answered N_p1 p1_most p1_length p1_kinds)) [2, 4] (by decide) rfl
  refine g_i (wc := (wdX2_kindAt G a_p1 a_p1_kinds a_p1_numbers a_p1_values a_p1_answered N_p1 p1_most p1_length p1_kinds)) (w1 := (wdX2_kindAt G a_p1 a_p1_kinds a_p1_numbers a_p1_values a_p1_answered N_p1 p1_most p1_length p1_kinds)) (w2 := (wdX0_putEvents G a_t a_t_row a_p1 a_p1_answered a_p1_kinds a_p1_numbers a_p1_values a_t_request N_p1 t_length t_requestLength t_faults t_withBinaries t_withAnalogs t_withEvents t_row p1_most p1_length p1_answered p1_kinds p1_numbers p1_values)) (va_runV (As := [.int x5]) (rest := []) ⟨hx, hb, hml, hown, hts⟩ (mX2_kindAt l G a_p1 a_p1_kinds a_p1_numbers a_p1_values a_p1_answered N_p1 p1_most p1_length p1_kinds x5 H.size u1 hu1) ⟨(callB_of 1 hts (bgIn kw654) rfl rfl rfl (hB _ kw55) (hB _ kw651) hdX2_kindAt ⟨(Nat.le_of_ble_eq_true rfl), (Nat.le_of_ble_eq_true rfl)⟩), hB _ kw652, hB _ kw653⟩ (gPreV (ci := 2) (qr := 0) hK hPc hDc rfl rfl rfl) rfl rfl hl.1 rfl (lv_room (Nat.le_of_ble_eq_true rfl)) dX0_putEvents_58 ⟨(Nat.le_of_ble_eq_true rfl), (Nat.le_of_ble_eq_true rfl)⟩) hP hD hS hA [2, 4] rfl rfl [.inl 0, .inl 1, .inr 0, .inl 3, .inr 1, .inl 5, .inl 6] rfl rfl (fun H locs hP hD hS => ?_)
  refine lv_if_ne (tgt := 68) hx hb dX0_putEvents_61 (by decide) (fun hc61 => ?_) (fun hc61 => ?_)
  · have h := brc_ff h hc61
    refine lv_iconst (v := (4 : Int32)) hx hb dX0_putEvents_68 (by decide) ?_
    exact wX0_putEvents_L69 C hk_L10 x2 x3 x4 x5 s0 (4 : Int32) t_length t_withEvents t_row p1_answered _ _ _ h hP hD hS (lv_sub hl [1, 2, 3, 4, 5, 6, 0] rfl)
  · have h := brc_tt h hc61
    refine lv_iconst (v := (2 : Int32)) hx hb dX0_putEvents_64 (by decide) ?_
    refine lv_goto (tgt := 69) hx hb dX0_putEvents_65 (by decide) ?_
    exact wX0_putEvents_L69 C hk_L10 x2 x3 x4 x5 s0 (2 : Int32) t_length t_withEvents t_row p1_answered _ _ _ h hP hD hS (lv_sub hl [1, 2, 3, 4, 5, 6, 0] rfl)
noncomputable def fX0_putEvents_L48 (N_p1 : Nat) (p1_length : Int32) (p1_kinds : Nat → Int32) (p1_numbers : Nat → Int32) (p1_values : Nat → Int32) (k_L10 : Int32 → Int32 → Int32 → Int32 → Int32 → Int32 → (Nat → Int32) → (Nat → Int32) → Option (Int32 × Int32 × (Nat → Int32) × (Nat → Int32))) (x2 : Int32) (x3 : Int32) (x4 : Int32) (x5 : Int32) (t_length : Int32) (t_withEvents : Int32) (t_row : Nat → Int32) (p1_answered : Nat → Int32) : Option (Int32 × Int32 × (Nat → Int32) × (Nat → Int32)) := fX0_putEvents_L53 N_p1 p1_length p1_kinds p1_numbers p1_values k_L10 x2 x3 x4 x5 (1 : Int32) t_length t_withEvents t_row p1_answered
set_option maxHeartbeats 4000000 in
set_option maxRecDepth 100000 in
theorem wX0_putEvents_L48 {p : Program} {l : Launch} {e : Env} {s : State} {m : MethodId} {args : Array Value} {below : List Frame} {meth : Method} {c : Code} {G : GT} {A : Nat → Prop} (C : cxt p s m args meth c cX0_putEvents none 8 "OutStation$Answer" wsX0_putEvents G A) {a_t : Nat} {a_t_row : Nat} {a_p1 : Nat} {a_p1_answered : Nat} {a_p1_kinds : Nat} {a_p1_numbers : Nat} {a_p1_values : Nat} {a_t_request : Nat} {N_p1 : Nat} {t_requestLength : Int32} {t_faults : Int32} {t_withBinaries : Int32} {t_withAnalogs : Int32} {p1_most : Int32} {p1_length : Int32} {p1_kinds : Nat → Int32} {p1_numbers : Nat → Int32} {p1_values : Nat → Int32} {k_L10 : Int32 → Int32 → Int32 → Int32 → Int32 → Int32 → (Nat → Int32) → (Nat → Int32) → Option (Int32 × Int32 × (Nat → Int32) × (Nat → Int32))} {out : Int32 × Int32 × (Nat → Int32) × (Nat → Int32)} (hk_L10 : ∀ (x2 : Int32) (x3 : Int32) (x4 : Int32) (x5 : Int32) (t_length : Int32) (t_withEvents : Int32) (t_row : Nat → Int32) (p1_answered : Nat → Int32) (H : Heap) (locs : List Loc) (ls : Array Slot), k_L10 x2 x3 x4 x5 t_length t_withEvents t_row p1_answered = some out → va_P G.1 vwCl (wdX0_putEvents G a_t a_t_row a_p1 a_p1_answered a_p1_kinds a_p1_numbers a_p1_values a_t_request N_p1 t_length t_requestLength t_faults t_withBinaries t_withAnalogs t_withEvents t_row p1_most p1_length p1_answered p1_kinds p1_numbers p1_values) H → va_D A (wdX0_putEvents G a_t a_t_row a_p1 a_p1_answered a_p1_kinds a_p1_numbers a_p1_values a_t_request N_p1 t_length t_requestLength t_faults t_withBinaries t_withAnalogs t_withEvents t_row p1_most p1_length p1_answered p1_kinds p1_numbers p1_values) → va_S A s.heap H locs → lv_has ls 8 [(0, .ref a_t), (1, .ref a_p1), (2, .int x2), (3, .int x3), (4, .int x4), (5, .int x5)] → W p l e rmX0_putEvents s m args below meth c H locs 0 0 (MQ below (gQv G A (wdX0_putEvents G a_t a_t_row a_p1 a_p1_answered a_p1_kinds a_p1_numbers a_p1_values a_t_request N_p1 out.1 t_requestLength t_faults t_withBinaries t_withAnalogs out.2.1 out.2.2.1 p1_most p1_length out.2.2.2 p1_kinds p1_numbers p1_values)) args s 0 0 A) (F0 m 10 ls [])) : ∀ (x2 : Int32) (x3 : Int32) (x4 : Int32) (x5 : Int32) (t_length : Int32) (t_withEvents : Int32) (t_row : Nat → Int32) (p1_answered : Nat → Int32) (H : Heap) (locs : List Loc) (ls : Array Slot), fX0_putEvents_L48 N_p1 p1_length p1_kinds p1_numbers p1_values k_L10 x2 x3 x4 x5 t_length t_withEvents t_row p1_answered = some out → va_P G.1 vwCl (wdX0_putEvents G a_t a_t_row a_p1 a_p1_answered a_p1_kinds a_p1_numbers a_p1_values a_t_request N_p1 t_length t_requestLength t_faults t_withBinaries t_withAnalogs t_withEvents t_row p1_most p1_length p1_answered p1_kinds p1_numbers p1_values) H → va_D A (wdX0_putEvents G a_t a_t_row a_p1 a_p1_answered a_p1_kinds a_p1_numbers a_p1_values a_t_request N_p1 t_length t_requestLength t_faults t_withBinaries t_withAnalogs t_withEvents t_row p1_most p1_length p1_answered p1_kinds p1_numbers p1_values) → va_S A s.heap H locs → lv_has ls 8 [(0, .ref a_t), (1, .ref a_p1), (2, .int x2), (3, .int x3), (4, .int x4), (5, .int x5)] → W p l e rmX0_putEvents s m args below meth c H locs 0 0 (MQ below (gQv G A (wdX0_putEvents G a_t a_t_row a_p1 a_p1_answered a_p1_kinds a_p1_numbers a_p1_values a_t_request N_p1 out.1 t_requestLength t_faults t_withBinaries t_withAnalogs out.2.1 out.2.2.1 p1_most p1_length out.2.2.2 p1_kinds p1_numbers p1_values)) args s 0 0 A) (F0 m 48 ls []) := by
  obtain ⟨hx, hb, hr, hml, hown, hts, hlocks, hA, hK⟩ := id C
  have hB : ∀ w ∈ BG, w.before args s = true := fun w h => hts w (List.mem_cons_of_mem _ h)
  intro x2 x3 x4 x5 t_length t_withEvents t_row p1_answered H locs ls h hP hD hS hl
  unfold fX0_putEvents_L48 at h
  refine lv_iconst (v := (1 : Int32)) hx hb dX0_putEvents_48 (by decide) ?_
  refine lv_goto (tgt := 53) hx hb dX0_putEvents_49 (by decide) ?_
  exact wX0_putEvents_L53 C hk_L10 x2 x3 x4 x5 (1 : Int32) t_length t_withEvents t_row p1_answered _ _ _ h hP hD hS (lv_sub hl [0, 1, 2, 3, 4, 5] rfl)
noncomputable def fX0_putEvents_L10 (N_p1 : Nat) (p1_length : Int32) (p1_kinds : Nat → Int32) (p1_numbers : Nat → Int32) (p1_values : Nat → Int32) (n : Nat) : Int32 → Int32 → Int32 → Int32 → Int32 → Int32 → (Nat → Int32) → (Nat → Int32) → Option (Int32 × Int32 × (Nat → Int32) × (Nat → Int32)) := Nat.rec (motive := fun _ => Int32 → Int32 → Int32 → Int32 → Int32 → Int32 → (Nat → Int32) → (Nat → Int32) → Option (Int32 × Int32 × (Nat → Int32) × (Nat → Int32))) (fun _ _ _ _ _ _ _ _ => none) (fun _ k_L10 x2 x3 x4 x5 t_length t_withEvents t_row p1_answered => bnd (fX2_size p1_length) (fun u1 => brc (u1 ≤ x5) (some (t_length, t_withEvents, t_row, p1_answered)) (bnd (fX2_isAnswered N_p1 p1_answered x5) (fun u2 => brc (u2 = 0) (bnd (fX2_kindAt N_p1 p1_kinds x5) (fun u3 => brc (u3 = x2) (brc (x3 = (255 : Int32)) (fX0_putEvents_L48 N_p1 p1_length p1_kinds p1_numbers p1_values k_L10 x2 x3 x4 x5 t_length t_withEvents t_row p1_answered) (fX0_putEvents_L53 N_p1 p1_length p1_kinds p1_numbers p1_values k_L10 x2 x3 x4 x5 (0 : Int32) t_length t_withEvents t_row p1_answered)) (fX0_putEvents_L48 N_p1 p1_length p1_kinds p1_numbers p1_values k_L10 x2 x3 x4 x5 t_length t_withEvents t_row p1_answered))) (fX0_putEvents_L161 N_p1 p1_length p1_kinds p1_numbers p1_values k_L10 x2 x3 x4 x5 t_length t_withEvents t_row p1_answered))))) n
set_option maxHeartbeats 4000000 in
set_option maxRecDepth 100000 in
theorem wX0_putEvents_L10 {p : Program} {l : Launch} {e : Env} {s : State} {m : MethodId} {args : Array Value} {below : List Frame} {meth : Method} {c : Code} {G : GT} {A : Nat → Prop} (C : cxt p s m args meth c cX0_putEvents none 8 "OutStation$Answer" wsX0_putEvents G A) {a_t : Nat} {a_t_row : Nat} {a_p1 : Nat} {a_p1_answered : Nat} {a_p1_kinds : Nat} {a_p1_numbers : Nat} {a_p1_values : Nat} {a_t_request : Nat} {N_p1 : Nat} {t_requestLength : Int32} {t_faults : Int32} {t_withBinaries : Int32} {t_withAnalogs : Int32} {p1_most : Int32} {p1_length : Int32} {p1_kinds : Nat → Int32} {p1_numbers : Nat → Int32} {p1_values : Nat → Int32} {out : Int32 × Int32 × (Nat → Int32) × (Nat → Int32)} : ∀ (n : Nat) (x2 : Int32) (x3 : Int32) (x4 : Int32) (x5 : Int32) (t_length : Int32) (t_withEvents : Int32) (t_row : Nat → Int32) (p1_answered : Nat → Int32) (H : Heap) (locs : List Loc) (ls : Array Slot), fX0_putEvents_L10 N_p1 p1_length p1_kinds p1_numbers p1_values n x2 x3 x4 x5 t_length t_withEvents t_row p1_answered = some out → va_P G.1 vwCl (wdX0_putEvents G a_t a_t_row a_p1 a_p1_answered a_p1_kinds a_p1_numbers a_p1_values a_t_request N_p1 t_length t_requestLength t_faults t_withBinaries t_withAnalogs t_withEvents t_row p1_most p1_length p1_answered p1_kinds p1_numbers p1_values) H → va_D A (wdX0_putEvents G a_t a_t_row a_p1 a_p1_answered a_p1_kinds a_p1_numbers a_p1_values a_t_request N_p1 t_length t_requestLength t_faults t_withBinaries t_withAnalogs t_withEvents t_row p1_most p1_length p1_answered p1_kinds p1_numbers p1_values) → va_S A s.heap H locs → lv_has ls 8 [(0, .ref a_t), (1, .ref a_p1), (2, .int x2), (3, .int x3), (4, .int x4), (5, .int x5)] → W p l e rmX0_putEvents s m args below meth c H locs 0 0 (MQ below (gQv G A (wdX0_putEvents G a_t a_t_row a_p1 a_p1_answered a_p1_kinds a_p1_numbers a_p1_values a_t_request N_p1 out.1 t_requestLength t_faults t_withBinaries t_withAnalogs out.2.1 out.2.2.1 p1_most p1_length out.2.2.2 p1_kinds p1_numbers p1_values)) args s 0 0 A) (F0 m 10 ls []) := by
  obtain ⟨hx, hb, hr, hml, hown, hts, hlocks, hA, hK⟩ := id C
  have hB : ∀ w ∈ BG, w.before args s = true := fun w h => hts w (List.mem_cons_of_mem _ h)
  intro n
  induction n with
  | zero =>
    intro x2 x3 x4 x5 t_length t_withEvents t_row p1_answered H locs ls h hP hD hS hl
    cases h
  | succ n ih =>
    intro x2 x3 x4 x5 t_length t_withEvents t_row p1_answered H locs ls h hP hD hS hl
    replace h : bnd (fX2_size p1_length) (fun u1 => brc (u1 ≤ x5) (some (t_length, t_withEvents, t_row, p1_answered)) (bnd (fX2_isAnswered N_p1 p1_answered x5) (fun u2 => brc (u2 = 0) (bnd (fX2_kindAt N_p1 p1_kinds x5) (fun u3 => brc (u3 = x2) (brc (x3 = (255 : Int32)) (fX0_putEvents_L48 N_p1 p1_length p1_kinds p1_numbers p1_values (fX0_putEvents_L10 N_p1 p1_length p1_kinds p1_numbers p1_values n) x2 x3 x4 x5 t_length t_withEvents t_row p1_answered) (fX0_putEvents_L53 N_p1 p1_length p1_kinds p1_numbers p1_values (fX0_putEvents_L10 N_p1 p1_length p1_kinds p1_numbers p1_values n) x2 x3 x4 x5 (0 : Int32) t_length t_withEvents t_row p1_answered)) (fX0_putEvents_L48 N_p1 p1_length p1_kinds p1_numbers p1_values (fX0_putEvents_L10 N_p1 p1_length p1_kinds p1_numbers p1_values n) x2 x3 x4 x5 t_length t_withEvents t_row p1_answered))) (fX0_putEvents_L161 N_p1 p1_length p1_kinds p1_numbers p1_values (fX0_putEvents_L10 N_p1 p1_length p1_kinds p1_numbers p1_values n) x2 x3 x4 x5 t_length t_withEvents t_row p1_answered)))) = some out := h
    refine lv_iload hx hb dX0_putEvents_10 (lv_at hl 5 rfl) ?_
    refine lv_aload_n hx hb dX0_putEvents_12 rfl (lv_at hl 1 rfl) ?_
    obtain ⟨u1, hu1, h⟩ := bnd_some h
    have hPc := hP.sub (ws' := (wdX2_size G a_p1 a_p1_kinds a_p1_numbers a_p1_values a_p1_answered p1_most p1_length)) [2] rfl
    have hDc := hD.sub (ws' := (wdX2_size G a_p1 a_p1_kinds a_p1_numbers a_p1_values a_p1_answered p1_most p1_length)) [2] (by decide) rfl
    refine g_i (wc := (wdX2_size G a_p1 a_p1_kinds a_p1_numbers a_p1_values a_p1_answered p1_most p1_length)) (w1 := (wdX2_size G a_p1 a_p1_kinds a_p1_numbers a_p1_values a_p1_answered p1_most p1_length)) (w2 := (wdX0_putEvents G a_t a_t_row a_p1 a_p1_answered a_p1_kinds a_p1_numbers a_p1_values a_t_request N_p1 t_length t_requestLength t_faults t_withBinaries t_withAnalogs t_withEvents t_row p1_most p1_length p1_answered p1_kinds p1_numbers p1_values)) (va_runV (As := []) (rest := [.int x5]) ⟨hx, hb, hml, hown, hts⟩ (mX2_size l G a_p1 a_p1_kinds a_p1_numbers a_p1_values a_p1_answered p1_most p1_length H.size u1 hu1) ⟨(callB_of 0 hts (bgIn kw646) rfl rfl rfl (hB _ kw55) (hB _ kw643) hdX2_size ⟨(Nat.le_of_ble_eq_true rfl), (Nat.le_of_ble_eq_true rfl)⟩), hB _ kw644, hB _ kw645⟩ (gPreV (ci := 2) (qr := 0) hK hPc hDc rfl rfl rfl) rfl rfl hl.1 rfl (lv_room (Nat.le_of_ble_eq_true rfl)) dX0_putEvents_13 ⟨(Nat.le_of_ble_eq_true rfl), (Nat.le_of_ble_eq_true rfl)⟩) hP hD hS hA [2] rfl rfl [.inl 0, .inl 1, .inr 0, .inl 3, .inl 4, .inl 5, .inl 6] rfl rfl (fun H locs hP hD hS => ?_)
    refine lv_icmp_ge (tgt := 167) hx hb dX0_putEvents_16 (by decide) (fun hc16 => ?_) (fun hc16 => ?_)
    · have h := brc_tt h hc16
      obtain rfl := Option.some.inj h
      exact W.vret hx hb hr (fun t ht hW => ⟨⟨(), rfl, trivial, by rw [ht]; exact hP, hD⟩, hS.F ht⟩) hS.2.2 dX0_putEvents_167
    · have h := brc_ff h hc16
      refine lv_aload_n hx hb dX0_putEvents_19 rfl (lv_at hl 1 rfl) ?_
      refine lv_iload hx hb dX0_putEvents_20 (lv_at hl 5 rfl) ?_
      obtain ⟨u2, hu2, h⟩ := bnd_some h
      have hPc := hP.sub (ws' := (wdX2_isAnswered G a_p1 a_p1_answered a_p1_kinds a_p1_numbers a_p1_values N_p1 p1_most p1_length p1_answered)) [2, 3] rfl
      have hDc := hD.sub (ws' := (wdX2_isAnswered G a_p1 a_p1_answered a_p1_kinds a_p1_numbers a_p1_values N_p1 p1_most p1_length p1_answered)) [2, 3] (by decide) rfl
      refine g_i (wc := (wdX2_isAnswered G a_p1 a_p1_answered a_p1_kinds a_p1_numbers a_p1_values N_p1 p1_most p1_length p1_answered)) (w1 := (wdX2_isAnswered G a_p1 a_p1_answered a_p1_kinds a_p1_numbers a_p1_values N_p1 p1_most p1_length p1_answered)) (w2 := (wdX0_putEvents G a_t a_t_row a_p1 a_p1_answered a_p1_kinds a_p1_numbers a_p1_values a_t_request N_p1 t_length t_requestLength t_faults t_withBinaries t_withAnalogs t_withEvents t_row p1_most p1_length p1_answered p1_kinds p1_numbers p1_values)) (va_runV (As := [.int x5]) (rest := []) ⟨hx, hb, hml, hown, hts⟩ (mX2_isAnswered l G a_p1 a_p1_answered a_p1_kinds a_p1_numbers a_p1_values N_p1 p1_most p1_length p1_answered x5 H.size u2 hu2) ⟨(callB_of 1 hts (bgIn kw650) rfl rfl rfl (hB _ kw55) (hB _ kw647) hdX2_isAnswered ⟨(Nat.le_of_ble_eq_true rfl), (Nat.le_of_ble_eq_true rfl)⟩), hB _ kw648, hB _ kw649⟩ (gPreV (ci := 2) (qr := 0) hK hPc hDc rfl rfl rfl) rfl rfl hl.1 rfl (lv_room (Nat.le_of_ble_eq_true rfl)) dX0_putEvents_22 ⟨(Nat.le_of_ble_eq_true rfl), (Nat.le_of_ble_eq_true rfl)⟩) hP hD hS hA [2, 3] rfl rfl [.inl 0, .inl 1, .inr 0, .inr 1, .inl 4, .inl 5, .inl 6] rfl rfl (fun H locs hP hD hS => ?_)
      refine lv_if_eq (tgt := 31) hx hb dX0_putEvents_25 (by decide) (fun hc25 => ?_) (fun hc25 => ?_)
      · have h := brc_tt h hc25
        refine lv_aload_n hx hb dX0_putEvents_31 rfl (lv_at hl 1 rfl) ?_
        refine lv_iload hx hb dX0_putEvents_32 (lv_at hl 5 rfl) ?_
        obtain ⟨u3, hu3, h⟩ := bnd_some h
        have hPc := hP.sub (ws' := (wdX2_kindAt G a_p1 a_p1_kinds a_p1_numbers a_p1_values a_p1_answered N_p1 p1_most p1_length p1_kinds)) [2, 4] rfl
        have hDc := hD.sub (ws' := (wdX2_kindAt G a_p1 a_p1_kinds a_p1_numbers a_p1_values a_p1_answered N_p1 p1_most p1_length p1_kinds)) [2, 4] (by decide) rfl
        refine g_i (wc := (wdX2_kindAt G a_p1 a_p1_kinds a_p1_numbers a_p1_values a_p1_answered N_p1 p1_most p1_length p1_kinds)) (w1 := (wdX2_kindAt G a_p1 a_p1_kinds a_p1_numbers a_p1_values a_p1_answered N_p1 p1_most p1_length p1_kinds)) (w2 := (wdX0_putEvents G a_t a_t_row a_p1 a_p1_answered a_p1_kinds a_p1_numbers a_p1_values a_t_request N_p1 t_length t_requestLength t_faults t_withBinaries t_withAnalogs t_withEvents t_row p1_most p1_length p1_answered p1_kinds p1_numbers p1_values)) (va_runV (As := [.int x5]) (rest := []) ⟨hx, hb, hml, hown, hts⟩ (mX2_kindAt l G a_p1 a_p1_kinds a_p1_numbers a_p1_values a_p1_answered N_p1 p1_most p1_length p1_kinds x5 H.size u3 hu3) ⟨(callB_of 1 hts (bgIn kw654) rfl rfl rfl (hB _ kw55) (hB _ kw651) hdX2_kindAt ⟨(Nat.le_of_ble_eq_true rfl), (Nat.le_of_ble_eq_true rfl)⟩), hB _ kw652, hB _ kw653⟩ (gPreV (ci := 2) (qr := 0) hK hPc hDc rfl rfl rfl) rfl rfl hl.1 rfl (lv_room (Nat.le_of_ble_eq_true rfl)) dX0_putEvents_34 ⟨(Nat.le_of_ble_eq_true rfl), (Nat.le_of_ble_eq_true rfl)⟩) hP hD hS hA [2, 4] rfl rfl [.inl 0, .inl 1, .inr 0, .inl 3, .inr 1, .inl 5, .inl 6] rfl rfl (fun H locs hP hD hS => ?_)
        refine lv_iload_n hx hb dX0_putEvents_37 rfl (lv_at hl 2 rfl) ?_
        refine lv_icmp_ne (tgt := 48) hx hb dX0_putEvents_38 (by decide) (fun hc38 => ?_) (fun hc38 => ?_)
        · have h := brc_ff h hc38
          exact wX0_putEvents_L48 C ih x2 x3 x4 x5 t_length t_withEvents t_row p1_answered _ _ _ h hP hD hS (lv_sub hl [0, 1, 2, 3, 4, 5] rfl)
        · have h := brc_tt h hc38
          refine lv_iload_n hx hb dX0_putEvents_41 rfl (lv_at hl 3 rfl) ?_
          refine lv_sipush (v := (255 : Int32)) hx hb dX0_putEvents_42 (by decide) ?_
          refine lv_icmp_ne (tgt := 52) hx hb dX0_putEvents_45 (by decide) (fun hc45 => ?_) (fun hc45 => ?_)
          · have h := brc_ff h hc45
            refine lv_iconst (v := (0 : Int32)) hx hb dX0_putEvents_52 (by decide) ?_
            exact wX0_putEvents_L53 C ih x2 x3 x4 x5 (0 : Int32) t_length t_withEvents t_row p1_answered _ _ _ h hP hD hS (lv_sub hl [0, 1, 2, 3, 4, 5] rfl)
          · have h := brc_tt h hc45
            exact wX0_putEvents_L48 C ih x2 x3 x4 x5 t_length t_withEvents t_row p1_answered _ _ _ h hP hD hS (lv_sub hl [0, 1, 2, 3, 4, 5] rfl)
      · have h := brc_ff h hc25
        refine lv_goto (tgt := 161) hx hb dX0_putEvents_28 (by decide) ?_
        exact wX0_putEvents_L161 C ih x2 x3 x4 x5 t_length t_withEvents t_row p1_answered _ _ _ h hP hD hS (lv_sub hl [0, 1, 2, 3, 4, 5] rfl)
noncomputable def fX0_putEvents (N_p1 : Nat) (p1_length : Int32) (p1_kinds : Nat → Int32) (p1_numbers : Nat → Int32) (p1_values : Nat → Int32) (t_length : Int32) (t_withEvents : Int32) (t_row : Nat → Int32) (p1_answered : Nat → Int32) : Option (Int32 × Int32 × (Nat → Int32) × (Nat → Int32)) := fX0_putEvents_L10 N_p1 p1_length p1_kinds p1_numbers p1_values FU (-1 : Int32) (0 : Int32) (0 : Int32) (0 : Int32) t_length t_withEvents t_row p1_answered
set_option maxHeartbeats 4000000 in
set_option maxRecDepth 100000 in
theorem wX0_putEvents_E {p : Program} {l : Launch} {e : Env} {s : State} {m : MethodId} {args : Array Value} {below : List Frame} {meth : Method} {c : Code} {G : GT} {A : Nat → Prop} (C : cxt p s m args meth c cX0_putEvents none 8 "OutStation$Answer" wsX0_putEvents G A) {a_t : Nat} {a_t_row : Nat} {a_p1 : Nat} {a_p1_answered : Nat} {a_p1_kinds : Nat} {a_p1_numbers : Nat} {a_p1_values : Nat} {a_t_request : Nat} {N_p1 : Nat} {t_requestLength : Int32} {t_faults : Int32} {t_withBinaries : Int32} {t_withAnalogs : Int32} {p1_most : Int32} {p1_length : Int32} {p1_kinds : Nat → Int32} {p1_numbers : Nat → Int32} {p1_values : Nat → Int32} {out : Int32 × Int32 × (Nat → Int32) × (Nat → Int32)} : ∀ (t_length : Int32) (t_withEvents : Int32) (t_row : Nat → Int32) (p1_answered : Nat → Int32) (H : Heap) (locs : List Loc) (ls : Array Slot), fX0_putEvents N_p1 p1_length p1_kinds p1_numbers p1_values t_length t_withEvents t_row p1_answered = some out → va_P G.1 vwCl (wdX0_putEvents G a_t a_t_row a_p1 a_p1_answered a_p1_kinds a_p1_numbers a_p1_values a_t_request N_p1 t_length t_requestLength t_faults t_withBinaries t_withAnalogs t_withEvents t_row p1_most p1_length p1_answered p1_kinds p1_numbers p1_values) H → va_D A (wdX0_putEvents G a_t a_t_row a_p1 a_p1_answered a_p1_kinds a_p1_numbers a_p1_values a_t_request N_p1 t_length t_requestLength t_faults t_withBinaries t_withAnalogs t_withEvents t_row p1_most p1_length p1_answered p1_kinds p1_numbers p1_values) → va_S A s.heap H locs → lv_has ls 8 [(0, .ref a_t), (1, .ref a_p1)] → W p l e rmX0_putEvents s m args below meth c H locs 0 0 (MQ below (gQv G A (wdX0_putEvents G a_t a_t_row a_p1 a_p1_answered a_p1_kinds a_p1_numbers a_p1_values a_t_request N_p1 out.1 t_requestLength t_faults t_withBinaries t_withAnalogs out.2.1 out.2.2.1 p1_most p1_length out.2.2.2 p1_kinds p1_numbers p1_values)) args s 0 0 A) (F0 m 0 ls []) := by
  obtain ⟨hx, hb, hr, hml, hown, hts, hlocks, hA, hK⟩ := id C
  have hB : ∀ w ∈ BG, w.before args s = true := fun w h => hts w (List.mem_cons_of_mem _ h)
  intro t_length t_withEvents t_row p1_answered H locs ls h hP hD hS hl
  unfold fX0_putEvents at h
  refine lv_iconst (v := (-1 : Int32)) hx hb dX0_putEvents_0 (by decide) ?_
  refine lv_istore_n (lv' := [(2, .int (-1 : Int32)), (0, .ref a_t), (1, .ref a_p1)]) hx hb dX0_putEvents_1 rfl hl (by decide) rfl (fun ls hl => ?_)
  refine lv_iconst (v := (0 : Int32)) hx hb dX0_putEvents_2 (by decide) ?_
  refine lv_istore_n (lv' := [(3, .int (0 : Int32)), (2, .int (-1 : Int32)), (0, .ref a_t), (1, .ref a_p1)]) hx hb dX0_putEvents_3 rfl hl (by decide) rfl (fun ls hl => ?_)
  refine lv_iconst (v := (0 : Int32)) hx hb dX0_putEvents_4 (by decide) ?_
  refine lv_istore (lv' := [(4, .int (0 : Int32)), (3, .int (0 : Int32)), (2, .int (-1 : Int32)), (0, .ref a_t), (1, .ref a_p1)]) hx hb dX0_putEvents_5 hl (by decide) rfl (fun ls hl => ?_)
  refine lv_iconst (v := (0 : Int32)) hx hb dX0_putEvents_7 (by decide) ?_
  refine lv_istore (lv' := [(5, .int (0 : Int32)), (4, .int (0 : Int32)), (3, .int (0 : Int32)), (2, .int (-1 : Int32)), (0, .ref a_t), (1, .ref a_p1)]) hx hb dX0_putEvents_8 hl (by decide) rfl (fun ls hl => ?_)
  exact wX0_putEvents_L10 C FU (-1 : Int32) (0 : Int32) (0 : Int32) (0 : Int32) t_length t_withEvents t_row p1_answered _ _ _ h hP hD hS (lv_sub hl [4, 5, 3, 2, 1, 0] rfl)
set_option maxHeartbeats 4000000 in
set_option maxRecDepth 100000 in
theorem mX0_putEvents (l : Launch) (G : GT) (a_t : Nat) (a_t_row : Nat) (a_p1 : Nat) (a_p1_answered : Nat) (a_p1_kinds : Nat) (a_p1_numbers : Nat) (a_p1_values : Nat) (a_t_request : Nat) (N_p1 : Nat) (t_requestLength : Int32) (t_faults : Int32) (t_withBinaries : Int32) (t_withAnalogs : Int32) (p1_most : Int32) (p1_length : Int32) (p1_kinds : Nat → Int32) (p1_numbers : Nat → Int32) (p1_values : Nat → Int32) (t_length : Int32) (t_withEvents : Int32) (t_row : Nat → Int32) (p1_answered : Nat → Int32) (sz : Nat) (out : Int32 × Int32 × (Nat → Int32) × (Nat → Int32)) (h : fX0_putEvents N_p1 p1_length p1_kinds p1_numbers p1_values t_length t_withEvents t_row p1_answered = some out) : Met l yX0_putEvents wsX0_putEvents rmX0_putEvents (gPc G [.ref a_t, .ref a_p1] sz (wdX0_putEvents G a_t a_t_row a_p1 a_p1_answered a_p1_kinds a_p1_numbers a_p1_values a_t_request N_p1 t_length t_requestLength t_faults t_withBinaries t_withAnalogs t_withEvents t_row p1_most p1_length p1_answered p1_kinds p1_numbers p1_values)) (gQv G (va_A (wdX0_putEvents G a_t a_t_row a_p1 a_p1_answered a_p1_kinds a_p1_numbers a_p1_values a_t_request N_p1 t_length t_requestLength t_faults t_withBinaries t_withAnalogs t_withEvents t_row p1_most p1_length p1_answered p1_kinds p1_numbers p1_values) sz) (wdX0_putEvents G a_t a_t_row a_p1 a_p1_answered a_p1_kinds a_p1_numbers a_p1_values a_t_request N_p1 out.1 t_requestLength t_faults t_withBinaries t_withAnalogs out.2.1 out.2.2.1 p1_most p1_length out.2.2.2 p1_kinds p1_numbers p1_values)) 0 0 (va_A (wdX0_putEvents G a_t a_t_row a_p1 a_p1_answered a_p1_kinds a_p1_numbers a_p1_values a_t_request N_p1 t_length t_requestLength t_faults t_withBinaries t_withAnalogs t_withEvents t_row p1_most p1_length p1_answered p1_kinds p1_numbers p1_values) sz) := by
  refine Met.ofW (cc := cX0_putEvents) (maxL := 8) (ret := none) (by decide) rfl ?_
  intro p e s m args below meth c s₁ B hml hv
  obtain ⟨rfl, hsz, hP, hK, hD0⟩ := hv
  have hts := atoms_spec (ws := wsX0_putEvents) B.pre
  have hown : s.vm.findClass "OutStation$Answer" = some m.cls := findClass_of_methodNamed B.named
  subst hsz
  have hD := hD0.self (sz := s.heap.size)
  generalize hAe : va_A (wdX0_putEvents G a_t a_t_row a_p1 a_p1_answered a_p1_kinds a_p1_numbers a_p1_values a_t_request N_p1 t_length t_requestLength t_faults t_withBinaries t_withAnalogs t_withEvents t_row p1_most p1_length p1_answered p1_kinds p1_numbers p1_values) s.heap.size = A at hD ⊢
  have hA : ∀ q : Nat, s.heap.size ≤ q → A q := fun q h => by rw [← hAe]; exact Or.inr h
  have hS : va_S A s.heap s.heap [] := va_S.rf
  have hl := lv_entry ([.ref a_t, .ref a_p1]) (n := 8) (Nat.le_of_ble_eq_true rfl)
  rw [lg_entry_eq]
  generalize (lg_sl ([.ref a_t, .ref a_p1]) ++ List.replicate (8 - (lg_sl ([.ref a_t, .ref a_p1])).length) Slot.unset).toArray = ls at hl ⊢
  exact wX0_putEvents_E ⟨B.exec, B.bytes, B.returns, hml, hown, hts, B.notSynchronized, hA, hK⟩ t_length t_withEvents t_row p1_answered _ _ _ h hP hD hS hl
