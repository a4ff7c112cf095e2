/-! ### OutStation.isPoint (I)Z -/
abbrev wdX9_isPoint (G : GT) : va_W := []
abbrev wsX9_isPoint : List Cond := .code yX9_isPoint cX9_isPoint 1 (some .boolean) :: BG
abbrev rmX9_isPoint : Room := { frames := 0, cells := 0, slots := 0, locals := 0 }
noncomputable def fX9_isPoint_L15 (s0 : Int32) : Option (Int32) := grd (isB s0) (some (s0))
set_option maxHeartbeats 4000000 in
set_option maxRecDepth 100000 in
theorem wX9_isPoint_L15 {p : Program} {l : Launch} {e : Env} {s : State} {m : MethodId} {args : Array Value} {below : List Frame} {meth : Method} {c : Code} {G : GT} {A : Nat → Prop} (C : cxt p s m args meth c cX9_isPoint (some .boolean) 1 "OutStation" wsX9_isPoint G A) {out : Int32} : ∀ (s0 : Int32) (H : Heap) (locs : List Loc) (ls : Array Slot), fX9_isPoint_L15 s0 = some out → va_P G.1 vwCl (wdX9_isPoint G) H → va_D A (wdX9_isPoint G) → va_S A s.heap H locs → lv_has ls 1 [] → W p l e rmX9_isPoint s m args below meth c H locs 0 0 (MQ below (gQi G A out (wdX9_isPoint G)) args s 0 0 A) (F0 m 15 ls [.int s0]) := by
  obtain ⟨hx, hb, hr, hml, hown, hts, hlocks, hA, hK⟩ := id C
  have hB : ∀ w ∈ BG, w.before args s = true := fun w h => hts w (List.mem_cons_of_mem _ h)
  intro s0 H locs ls h hP hD hS hl
  unfold fX9_isPoint_L15 at h
  obtain ⟨hg1, h⟩ := grd_some h
  obtain rfl := Option.some.inj h
  exact W.zret (v := s0) hx hb hr (isB_nar hg1) (fun t ht hW => ⟨⟨_, (), rfl, rfl, by rw [ht]; exact hP, hD⟩, hS.F ht⟩) hS.2.2 dX9_isPoint_15
noncomputable def fX9_isPoint_L14 : Option (Int32) := fX9_isPoint_L15 (0 : Int32)
set_option maxHeartbeats 4000000 in
set_option maxRecDepth 100000 in
theorem wX9_isPoint_L14 {p : Program} {l : Launch} {e : Env} {s : State} {m : MethodId} {args : Array Value} {below : List Frame} {meth : Method} {c : Code} {G : GT} {A : Nat → Prop} (C : cxt p s m args meth c cX9_isPoint (some .boolean) 1 "OutStation" wsX9_isPoint G A) {out : Int32} : ∀ (H : Heap) (locs : List Loc) (ls : Array Slot), fX9_isPoint_L14 = some out → va_P G.1 vwCl (wdX9_isPoint G) H → va_D A (wdX9_isPoint G) → va_S A s.heap H locs → lv_has ls 1 [] → W p l e rmX9_isPoint s m args below meth c H locs 0 0 (MQ below (gQi G A out (wdX9_isPoint G)) args s 0 0 A) (F0 m 14 ls []) := by
  obtain ⟨hx, hb, hr, hml, hown, hts, hlocks, hA, hK⟩ := id C
  have hB : ∀ w ∈ BG, w.before args s = true := fun w h => hts w (List.mem_cons_of_mem _ h)
  intro H locs ls h hP hD hS hl
  unfold fX9_isPoint_L14 at h
  refine lv_iconst (v := (0 : Int32)) hx hb dX9_isPoint_14 (by decide) ?_
  exact wX9_isPoint_L15 C (0 : Int32) _ _ _ h hP hD hS (lv_sub hl [] rfl)
noncomputable def fX9_isPoint (x0 : Int32) : Option (Int32) := brc (x0 < 0) (fX9_isPoint_L14) (brc ((16 : Int32) ≤ x0) (fX9_isPoint_L14) (fX9_isPoint_L15 (1 : Int32)))
set_option maxHeartbeats 4000000 in
set_option maxRecDepth 100000 in
theorem wX9_isPoint_E {p : Program} {l : Launch} {e : Env} {s : State} {m : MethodId} {args : Array Value} {below : List Frame} {meth : Method} {c : Code} {G : GT} {A : Nat → Prop} (C : cxt p s m args meth c cX9_isPoint (some .boolean) 1 "OutStation" wsX9_isPoint G A) {out : Int32} : ∀ (x0 : Int32) (H : Heap) (locs : List Loc) (ls : Array Slot), fX9_isPoint x0 = some out → va_P G.1 vwCl (wdX9_isPoint G) H → va_D A (wdX9_isPoint G) → va_S A s.heap H locs → lv_has ls 1 [(0, .int x0)] → W p l e rmX9_isPoint s m args below meth c H locs 0 0 (MQ below (gQi G A out (wdX9_isPoint G)) args s 0 0 A) (F0 m 0 ls []) := by
  obtain ⟨hx, hb, hr, hml, hown, hts, hlocks, hA, hK⟩ := id C
  have hB : ∀ w ∈ BG, w.before args s = true := fun w h => hts w (List.mem_cons_of_mem _ h)
  intro x0 H locs ls h hP hD hS hl
  unfold fX9_isPoint at h
  refine lv_iload_n hx hb dX9_isPoint_0 rfl (lv_at hl 0 rfl) ?_
  refine lv_if_lt (tgt := 14) hx hb dX9_isPoint_1 (by decide) (fun hc1 => ?_) (fun hc1 => ?_)
  · have h := brc_tt h hc1
    exact wX9_isPoint_L14 C _ _ _ h hP hD hS (lv_sub hl [] rfl)
  · have h := brc_ff h hc1
    refine lv_iload_n hx hb dX9_isPoint_4 rfl (lv_at hl 0 rfl) ?_
    refine lv_bipush (v := (16 : Int32)) hx hb dX9_isPoint_5 (by decide) ?_
    refine lv_icmp_ge (tgt := 14) hx hb dX9_isPoint_7 (by decide) (fun hc7 => ?_) (fun hc7 => ?_)
    · have h := brc_tt h hc7
      exact wX9_isPoint_L14 C _ _ _ h hP hD hS (lv_sub hl [] rfl)
    · have h := brc_ff h hc7
      refine lv_iconst (v := (1 : Int32)) hx hb dX9_isPoint_10 (by decide) ?_
      refine lv_goto (tgt := 15) hx hb dX9_isPoint_11 (by decide) ?_
      exact wX9_isPoint_L15 C (1 : Int32) _ _ _ h hP hD hS (lv_sub hl [] rfl)
set_option maxHeartbeats 4000000 in
set_option maxRecDepth 100000 in
theorem mX9_isPoint (l : Launch) (G : GT) (x0 : Int32) (sz : Nat) (out : Int32) (h : fX9_isPoint x0 = some out) : Met l yX9_isPoint wsX9_isPoint rmX9_isPoint (gPc G [.int x0] sz (wdX9_isPoint G)) (gQi G (va_A (wdX9_isPoint G) sz) out (wdX9_isPoint G)) 0 0 (va_A (wdX9_isPoint G) sz) := by
  refine Met.ofW (cc := cX9_isPoint) (maxL := 1) (ret := (some .boolean)) (by decide) rfl ?_
  intro p e s m args below meth c s₁ B hml hv
  obtain ⟨rfl, hsz, hP, hK, hD0⟩ := hv
  have hts := atoms_spec (ws := wsX9_isPoint) B.pre
  have hown : s.vm.findClass "OutStation" = some m.cls := findClass_of_methodNamed B.named
  subst hsz
  have hD := hD0.self (sz := s.heap.size)
  generalize hAe : va_A (wdX9_isPoint G) s.heap.size = A at hD ⊢
  have hA : ∀ q : Nat, s.heap.size ≤ q → A q := fun q h => by rw [← hAe]; exact Or.inr h
  have hS : va_S A s.heap s.heap [] := va_S.rf
  have hl := lv_entry ([.int x0]) (n := 1) (Nat.le_of_ble_eq_true rfl)
  rw [lg_entry_eq]
  generalize (lg_sl ([.int x0]) ++ List.replicate (1 - (lg_sl ([.int x0])).length) Slot.unset).toArray = ls at hl ⊢
  exact wX9_isPoint_E ⟨B.exec, B.bytes, B.returns, hml, hown, hts, B.notSynchronized, hA, hK⟩ x0 _ _ _ h hP hD hS hl
/-! ### OutStation.stirIn (II)I -/
abbrev wdX9_stirIn (G : GT) : va_W := []
abbrev wsX9_stirIn : List Cond := .code yX9_stirIn cX9_stirIn 4 (some .int) :: BG
abbrev rmX9_stirIn : Room := { frames := 0, cells := 0, slots := 0, locals := 0 }
noncomputable def fX9_stirIn_L31 (k_L6 : Int32 → Int32 → Option (Int32)) (x3 : Int32) (s0 : Int32) : Option (Int32) := k_L6 s0 (x3 + (1 : Int32))
set_option maxHeartbeats 4000000 in
set_option maxRecDepth 100000 in
theorem wX9_stirIn_L31 {p : Program} {l : Launch} {e : Env} {s : State} {m : MethodId} {args : Array Value} {below : List Frame} {meth : Method} {c : Code} {G : GT} {A : Nat → Prop} (C : cxt p s m args meth c cX9_stirIn (some .int) 4 "OutStation" wsX9_stirIn G A) {k_L6 : Int32 → Int32 → Option (Int32)} {out : Int32} (hk_L6 : ∀ (x2 : Int32) (x3 : Int32) (H : Heap) (locs : List Loc) (ls : Array Slot), k_L6 x2 x3 = some out → va_P G.1 vwCl (wdX9_stirIn G) H → va_D A (wdX9_stirIn G) → va_S A s.heap H locs → lv_has ls 4 [(2, .int x2), (3, .int x3)] → W p l e rmX9_stirIn s m args below meth c H locs 0 0 (MQ below (gQi G A out (wdX9_stirIn G)) args s 0 0 A) (F0 m 6 ls [])) : ∀ (x3 : Int32) (s0 : Int32) (H : Heap) (locs : List Loc) (ls : Array Slot), fX9_stirIn_L31 k_L6 x3 s0 = some out → va_P G.1 vwCl (wdX9_stirIn G) H → va_D A (wdX9_stirIn G) → va_S A s.heap H locs → lv_has ls 4 [(3, .int x3)] → W p l e rmX9_stirIn s m args below meth c H locs 0 0 (MQ below (gQi G A out (wdX9_stirIn G)) args s 0 0 A) (F0 m 31 ls [.int s0]) := by
  obtain ⟨hx, hb, hr, hml, hown, hts, hlocks, hA, hK⟩ := id C
  have hB : ∀ w ∈ BG, w.before args s = true := fun w h => hts w (List.mem_cons_of_mem _ h)
  intro x3 s0 H locs ls h hP hD hS hl
  unfold fX9_stirIn_L31 at h
  refine lv_istore_n (lv' := [(2, .int s0), (3, .int x3)]) hx hb dX9_stirIn_31 rfl hl (by decide) rfl (fun ls hl => ?_)
  refine lv_iinc (v := (x3 + (1 : Int32))) (lv' := [(3, .int (x3 + (1 : Int32))), (2, .int s0)]) hx hb dX9_stirIn_32 hl (k := 1) rfl rfl (by decide) rfl (fun ls hl => ?_)
  refine lv_goto (tgt := 6) hx hb dX9_stirIn_35 (by decide) ?_
  exact hk_L6 s0 (x3 + (1 : Int32)) _ _ _ h hP hD hS (lv_sub hl [1, 0] rfl)
noncomputable def fX9_stirIn_L6 (n : Nat) : Int32 → Int32 → Option (Int32) := Nat.rec (motive := fun _ => Int32 → Int32 → Option (Int32)) (fun _ _ => none) (fun _ k_L6 x2 x3 => brc ((8 : Int32) ≤ x3) (some (x2)) (brc ((x2 &&& (1 : Int32)) = (1 : Int32)) (fX9_stirIn_L31 k_L6 x3 ((ushr x2 (1 : Int32)) ^^^ (42684 : Int32))) (fX9_stirIn_L31 k_L6 x3 (ushr x2 (1 : Int32))))) n
set_option maxHeartbeats 4000000 in
set_option maxRecDepth 100000 in
theorem wX9_stirIn_L6 {p : Program} {l : Launch} {e : Env} {s : State} {m : MethodId} {args : Array Value} {below : List Frame} {meth : Method} {c : Code} {G : GT} {A : Nat → Prop} (C : cxt p s m args meth c cX9_stirIn (some .int) 4 "OutStation" wsX9_stirIn G A) {out : Int32} : ∀ (n : Nat) (x2 : Int32) (x3 : Int32) (H : Heap) (locs : List Loc) (ls : Array Slot), fX9_stirIn_L6 n x2 x3 = some out → va_P G.1 vwCl (wdX9_stirIn G) H → va_D A (wdX9_stirIn G) → va_S A s.heap H locs → lv_has ls 4 [(2, .int x2), (3, .int x3)] → W p l e rmX9_stirIn s m args below meth c H locs 0 0 (MQ below (gQi G A out (wdX9_stirIn G)) args s 0 0 A) (F0 m 6 ls []) := by
  obtain ⟨hx, hb, hr, hml, hown, hts, hlocks, hA, hK⟩ := id C
  have hB : ∀ w ∈ BG, w.before args s = true := fun w h => hts w (List.mem_cons_of_mem _ h)
  intro n
  induction n with
  | zero =>
    intro x2 x3 H locs ls h hP hD hS hl
    cases h
  | succ n ih =>
    intro x2 x3 H locs ls h hP hD hS hl
    replace h : brc ((8 : Int32) ≤ x3) (some (x2)) (brc ((x2 &&& (1 : Int32)) = (1 : Int32)) (fX9_stirIn_L31 (fX9_stirIn_L6 n) x3 ((ushr x2 (1 : Int32)) ^^^ (42684 : Int32))) (fX9_stirIn_L31 (fX9_stirIn_L6 n) x3 (ushr x2 (1 : Int32)))) = some out := h
    refine lv_iload_n hx hb dX9_stirIn_6 rfl (lv_at hl 1 rfl) ?_
    refine lv_bipush (v := (8 : Int32)) hx hb dX9_stirIn_7 (by decide) ?_
    refine lv_icmp_ge (tgt := 38) hx hb dX9_stirIn_9 (by decide) (fun hc9 => ?_) (fun hc9 => ?_)
    · have h := brc_tt h hc9
      refine lv_iload_n hx hb dX9_stirIn_38 rfl (lv_at hl 0 rfl) ?_
      obtain rfl := Option.some.inj h
      exact W.iret (v := x2) hx hb hr (fun t ht hW => ⟨⟨_, (), rfl, rfl, by rw [ht]; exact hP, hD⟩, hS.F ht⟩) hS.2.2 dX9_stirIn_39
    · have h := brc_ff h hc9
      refine lv_iload_n hx hb dX9_stirIn_12 rfl (lv_at hl 0 rfl) ?_
      refine lv_iconst (v := (1 : Int32)) hx hb dX9_stirIn_13 (by decide) ?_
      refine lv_iand hx hb dX9_stirIn_14 ?_
      refine lv_iconst (v := (1 : Int32)) hx hb dX9_stirIn_15 (by decide) ?_
      refine lv_icmp_ne (tgt := 28) hx hb dX9_stirIn_16 (by decide) (fun hc16 => ?_) (fun hc16 => ?_)
      · have h := brc_ff h hc16
        refine lv_iload_n hx hb dX9_stirIn_28 rfl (lv_at hl 0 rfl) ?_
        refine lv_iconst (v := (1 : Int32)) hx hb dX9_stirIn_29 (by decide) ?_
        refine lv_iushr (v := (ushr x2 (1 : Int32))) hx hb dX9_stirIn_30 rfl ?_
        exact wX9_stirIn_L31 C ih x3 (ushr x2 (1 : Int32)) _ _ _ h hP hD hS (lv_sub hl [1] rfl)
      · have h := brc_tt h hc16
        refine lv_iload_n hx hb dX9_stirIn_19 rfl (lv_at hl 0 rfl) ?_
        refine lv_iconst (v := (1 : Int32)) hx hb dX9_stirIn_20 (by decide) ?_
        refine lv_iushr (v := (ushr x2 (1 : Int32))) hx hb dX9_stirIn_21 rfl ?_
        refine lv_ldc (v := (42684 : Int32)) hx hb hown (hB _ kw442) dX9_stirIn_22 ?_
        refine lv_ixor hx hb dX9_stirIn_24 ?_
        refine lv_goto (tgt := 31) hx hb dX9_stirIn_25 (by decide) ?_
        exact wX9_stirIn_L31 C ih x3 ((ushr x2 (1 : Int32)) ^^^ (42684 : Int32)) _ _ _ h hP hD hS (lv_sub hl [1] rfl)
noncomputable def fX9_stirIn (x0 : Int32) (x1 : Int32) : Option (Int32) := fX9_stirIn_L6 FU (x0 ^^^ x1) (0 : Int32)
set_option maxHeartbeats 4000000 in
set_option maxRecDepth 100000 in
theorem wX9_stirIn_E {p : Program} {l : Launch} {e : Env} {s : State} {m : MethodId} {args : Array Value} {below : List Frame} {meth : Method} {c : Code} {G : GT} {A : Nat → Prop} (C : cxt p s m args meth c cX9_stirIn (some .int) 4 "OutStation" wsX9_stirIn G A) {out : Int32} : ∀ (x0 : Int32) (x1 : Int32) (H : Heap) (locs : List Loc) (ls : Array Slot), fX9_stirIn x0 x1 = some out → va_P G.1 vwCl (wdX9_stirIn G) H → va_D A (wdX9_stirIn G) → va_S A s.heap H locs → lv_has ls 4 [(0, .int x0), (1, .int x1)] → W p l e rmX9_stirIn s m args below meth c H locs 0 0 (MQ below (gQi G A out (wdX9_stirIn G)) args s 0 0 A) (F0 m 0 ls []) := by
  obtain ⟨hx, hb, hr, hml, hown, hts, hlocks, hA, hK⟩ := id C
  have hB : ∀ w ∈ BG, w.before args s = true := fun w h => hts w (List.mem_cons_of_mem _ h)
  intro x0 x1 H locs ls h hP hD hS hl
  unfold fX9_stirIn at h
  refine lv_iload_n hx hb dX9_stirIn_0 rfl (lv_at hl 0 rfl) ?_
  refine lv_iload_n hx hb dX9_stirIn_1 rfl (lv_at hl 1 rfl) ?_
  refine lv_ixor hx hb dX9_stirIn_2 ?_
  refine lv_istore_n (lv' := [(2, .int (x0 ^^^ x1)), (0, .int x0), (1, .int x1)]) hx hb dX9_stirIn_3 rfl hl (by decide) rfl (fun ls hl => ?_)
  refine lv_iconst (v := (0 : Int32)) hx hb dX9_stirIn_4 (by decide) ?_
  refine lv_istore_n (lv' := [(3, .int (0 : Int32)), (2, .int (x0 ^^^ x1)), (0, .int x0), (1, .int x1)]) hx hb dX9_stirIn_5 rfl hl (by decide) rfl (fun ls hl => ?_)
  exact wX9_stirIn_L6 C FU (x0 ^^^ x1) (0 : Int32) _ _ _ h hP hD hS (lv_sub hl [1, 0] rfl)
set_option maxHeartbeats 4000000 in
set_option maxRecDepth 100000 in
theorem mX9_stirIn (l : Launch) (G : GT) (x0 : Int32) (x1 : Int32) (sz : Nat) (out : Int32) (h : fX9_stirIn x0 x1 = some out) : Met l yX9_stirIn wsX9_stirIn rmX9_stirIn (gPc G [.int x0, .int x1] sz (wdX9_stirIn G)) (gQi G (va_A (wdX9_stirIn G) sz) out (wdX9_stirIn G)) 0 0 (va_A (wdX9_stirIn G) sz) := by
  refine Met.ofW (cc := cX9_stirIn) (maxL := 4) (ret := (some .int)) (by decide) rfl ?_
  intro p e s m args below meth c s₁ B hml hv
  obtain ⟨rfl, hsz, hP, hK, hD0⟩ := hv
  have hts := atoms_spec (ws := wsX9_stirIn) B.pre
  have hown : s.vm.findClass "OutStation" = some m.cls := findClass_of_methodNamed B.named
  subst hsz
  have hD := hD0.self (sz := s.heap.size)
  generalize hAe : va_A (wdX9_stirIn G) s.heap.size = A at hD ⊢
  have hA : ∀ q : Nat, s.heap.size ≤ q → A q := fun q h => by rw [← hAe]; exact Or.inr h
  have hS : va_S A s.heap s.heap [] := va_S.rf
  have hl := lv_entry ([.int x0, .int x1]) (n := 4) (Nat.le_of_ble_eq_true rfl)
  rw [lg_entry_eq]
  generalize (lg_sl ([.int x0, .int x1]) ++ List.replicate (4 - (lg_sl ([.int x0, .int x1])).length) Slot.unset).toArray = ls at hl ⊢
  exact wX9_stirIn_E ⟨B.exec, B.bytes, B.returns, hml, hown, hts, B.notSynchronized, hA, hK⟩ x0 x1 _ _ _ h hP hD hS hl
/-! ### OutStation.checkOf ([III)I -/
abbrev wdX9_checkOf (G : GT) (a_p0 : Nat) (N_p0 : Nat) (p0 : Nat → Int32) : va_W := [(a_p0, .inl (G.2.1, N_p0, .inl p0))]
abbrev wsX9_checkOf : List Cond := .code yX9_checkOf cX9_checkOf 5 (some .int) :: BG
abbrev rmX9_checkOf : Room := { frames := 1, cells := 0, slots := 0, locals := 23 }
noncomputable def fX9_checkOf_L5 (N_p0 : Nat) (p0 : Nat → Int32) (n : Nat) : Int32 → Int32 → Int32 → Option (Int32) := Nat.rec (motive := fun _ => Int32 → Int32 → Int32 → Option (Int32)) (fun _ _ _ => none) (fun _ k_L5 x2 x3 x4 => brc (x2 ≤ x4) (some ((x3 ^^^ (65535 : Int32)))) (grd (vp_in x4 N_p0) (bnd (fX9_stirIn x3 (p0 (ix x4))) (fun u2 => k_L5 x2 u2 (x4 + (1 : Int32)))))) n
set_option maxHeartbeats 4000000 in
set_option maxRecDepth 100000 in
theorem wX9_checkOf_L5 {p : Program} {l : Launch} {e : Env} {s : State} {m : MethodId} {args : Array Value} {below : List Frame} {meth : Method} {c : Code} {G : GT} {A : Nat → Prop} (C : cxt p s m args meth c cX9_checkOf (some .int) 5 "OutStation" wsX9_checkOf G A) {a_p0 : Nat} {N_p0 : Nat} {p0 : Nat → Int32} {out : Int32} : ∀ (n : Nat) (x2 : Int32) (x3 : Int32) (x4 : Int32) (H : Heap) (locs : List Loc) (ls : Array Slot), fX9_checkOf_L5 N_p0 p0 n x2 x3 x4 = some out → va_P G.1 vwCl (wdX9_checkOf G a_p0 N_p0 p0) H → va_D A (wdX9_checkOf G a_p0 N_p0 p0) → va_S A s.heap H locs → lv_has ls 5 [(0, .ref a_p0), (2, .int x2), (3, .int x3), (4, .int x4)] → W p l e rmX9_checkOf s m args below meth c H locs 0 0 (MQ below (gQi G A out (wdX9_checkOf G a_p0 N_p0 p0)) args s 0 0 A) (F0 m 5 ls []) := by
  obtain ⟨hx, hb, hr, hml, hown, hts, hlocks, hA, hK⟩ := id C
  have hB : ∀ w ∈ BG, w.before args s = true := fun w h => hts w (List.mem_cons_of_mem _ h)
  intro n
  induction n with
  | zero =>
    intro x2 x3 x4 H locs ls h hP hD hS hl
    cases h
  | succ n ih =>
    intro x2 x3 x4 H locs ls h hP hD hS hl
    replace h : brc (x2 ≤ x4) (some ((x3 ^^^ (65535 : Int32)))) (grd (vp_in x4 N_p0) (bnd (fX9_stirIn x3 (p0 (ix x4))) (fun u2 => (fX9_checkOf_L5 N_p0 p0 n) x2 u2 (x4 + (1 : Int32))))) = some out := h
    refine lv_iload hx hb dX9_checkOf_5 (lv_at hl 3 rfl) ?_
    refine lv_iload_n hx hb dX9_checkOf_7 rfl (lv_at hl 1 rfl) ?_
    refine lv_icmp_ge (tgt := 26) hx hb dX9_checkOf_8 (by decide) (fun hc8 => ?_) (fun hc8 => ?_)
    · have h := brc_tt h hc8
      refine lv_iload_n hx hb dX9_checkOf_26 rfl (lv_at hl 2 rfl) ?_
      refine lv_ldc (v := (65535 : Int32)) hx hb hown (hB _ kw74) dX9_checkOf_27 ?_
      refine lv_ixor hx hb dX9_checkOf_29 ?_
      obtain rfl := Option.some.inj h
      exact W.iret (v := (x3 ^^^ (65535 : Int32))) hx hb hr (fun t ht hW => ⟨⟨_, (), rfl, rfl, by rw [ht]; exact hP, hD⟩, hS.F ht⟩) hS.2.2 dX9_checkOf_30
    · have h := brc_ff h hc8
      refine lv_iload_n hx hb dX9_checkOf_11 rfl (lv_at hl 2 rfl) ?_
      refine lv_aload_n hx hb dX9_checkOf_12 rfl (lv_at hl 0 rfl) ?_
      refine lv_iload hx hb dX9_checkOf_13 (lv_at hl 3 rfl) ?_
      obtain ⟨hg1, h⟩ := grd_some h
      refine va_iald hx hb hK.1 hP 0 0 rfl rfl hg1 dX9_checkOf_15 ?_
      obtain ⟨u2, hu2, h⟩ := bnd_some h
      have hPc := hP.sub (ws' := (wdX9_stirIn G)) [] rfl
      have hDc := hD.sub (ws' := (wdX9_stirIn G)) [] (by decide) rfl
      refine g_i (wc := (wdX9_stirIn G)) (w1 := (wdX9_stirIn G)) (w2 := (wdX9_checkOf G a_p0 N_p0 p0)) (va_runS (As := [.int x3, .int (p0 (ix x4))]) (rest := []) ⟨hx, hb, hml, hown, hts⟩ (mX9_stirIn l G x3 (p0 (ix x4)) H.size u2 hu2) ⟨(callB_of 2 hts (bgIn kw441) rfl rfl rfl (hB _ kw46) (hB _ kw439) hdX9_stirIn ⟨(Nat.le_of_ble_eq_true rfl), (Nat.le_of_ble_eq_true rfl)⟩), hB _ kw440⟩ (gPreS hK hPc hDc) rfl rfl hl.1 rfl (lv_room (Nat.le_of_ble_eq_true rfl)) dX9_checkOf_16 ⟨(Nat.le_of_ble_eq_true rfl), (Nat.le_of_ble_eq_true rfl)⟩) hP hD hS hA [] rfl rfl [.inl 0] rfl rfl (fun H locs hP hD hS => ?_)
      refine lv_istore_n (lv' := [(3, .int u2), (0, .ref a_p0), (2, .int x2), (4, .int x4)]) hx hb dX9_checkOf_19 rfl hl (by decide) rfl (fun ls hl => ?_)
      refine lv_iinc (v := (x4 + (1 : Int32))) (lv' := [(4, .int (x4 + (1 : Int32))), (3, .int u2), (0, .ref a_p0), (2, .int x2)]) hx hb dX9_checkOf_20 hl (k := 3) rfl rfl (by decide) rfl (fun ls hl => ?_)
      refine lv_goto (tgt := 5) hx hb dX9_checkOf_23 (by decide) ?_
      exact ih x2 u2 (x4 + (1 : Int32)) _ _ _ h hP hD hS (lv_sub hl [2, 3, 1, 0] rfl)
noncomputable def fX9_checkOf (N_p0 : Nat) (p0 : Nat → Int32) (x1 : Int32) (x2 : Int32) : Option (Int32) := fX9_checkOf_L5 N_p0 p0 FU x2 (0 : Int32) x1
set_option maxHeartbeats 4000000 in
set_option maxRecDepth 100000 in
theorem wX9_checkOf_E {p : Program} {l : Launch} {e : Env} {s : State} {m : MethodId} {args : Array Value} {below : List Frame} {meth : Method} {c : Code} {G : GT} {A : Nat → Prop} (C : cxt p s m args meth c cX9_checkOf (some .int) 5 "OutStation" wsX9_checkOf G A) {a_p0 : Nat} {N_p0 : Nat} {p0 : Nat → Int32} {out : Int32} : ∀ (x1 : Int32) (x2 : Int32) (H : Heap) (locs : List Loc) (ls : Array Slot), fX9_checkOf N_p0 p0 x1 x2 = some out → va_P G.1 vwCl (wdX9_checkOf G a_p0 N_p0 p0) H → va_D A (wdX9_checkOf G a_p0 N_p0 p0) → va_S A s.heap H locs → lv_has ls 5 [(0, .ref a_p0), (1, .int x1), (2, .int x2)] → W p l e rmX9_checkOf s m args below meth c H locs 0 0 (MQ below (gQi G A out (wdX9_checkOf G a_p0 N_p0 p0)) args s 0 0 A) (F0 m 0 ls []) := by
  obtain ⟨hx, hb, hr, hml, hown, hts, hlocks, hA, hK⟩ := id C
  have hB : ∀ w ∈ BG, w.before args s = true := fun w h => hts w (List.mem_cons_of_mem _ h)
  intro x1 x2 H locs ls h hP hD hS hl
  unfold fX9_checkOf at h
  refine lv_iconst (v := (0 : Int32)) hx hb dX9_checkOf_0 (by decide) ?_
  refine lv_istore_n (lv' := [(3, .int (0 : Int32)), (0, .ref a_p0), (1, .int x1), (2, .int x2)]) hx hb dX9_checkOf_1 rfl hl (by decide) rfl (fun ls hl => ?_)
  refine lv_iload_n hx hb dX9_checkOf_2 rfl (lv_at hl 2 rfl) ?_
  refine lv_istore (lv' := [(4, .int x1), (3, .int (0 : Int32)), (0, .ref a_p0), (1, .int x1), (2, .int x2)]) hx hb dX9_checkOf_3 hl (by decide) rfl (fun ls hl => ?_)
  exact wX9_checkOf_L5 C FU x2 (0 : Int32) x1 _ _ _ h hP hD hS (lv_sub hl [2, 4, 1, 0] rfl)
set_option maxHeartbeats 4000000 in
set_option maxRecDepth 100000 in
theorem mX9_checkOf (l : Launch) (G : GT) (a_p0 : Nat) (N_p0 : Nat) (p0 : Nat → Int32) (x1 : Int32) (x2 : Int32) (sz : Nat) (out : Int32) (h : fX9_checkOf N_p0 p0 x1 x2 = some out) : Met l yX9_checkOf wsX9_checkOf rmX9_checkOf (gPc G [.ref a_p0, .int x1, .int x2] sz (wdX9_checkOf G a_p0 N_p0 p0)) (gQi G (va_A (wdX9_checkOf G a_p0 N_p0 p0) sz) out (wdX9_checkOf G a_p0 N_p0 p0)) 0 0 (va_A (wdX9_checkOf G a_p0 N_p0 p0) sz) := by
  refine Met.ofW (cc := cX9_checkOf) (maxL := 5) (ret := (some .int)) (by decide) rfl ?_
  intro p e s m args below meth c s₁ B hml hv
  obtain ⟨rfl, hsz, hP, hK, hD0⟩ := hv
  have hts := atoms_spec (ws := wsX9_checkOf) B.pre
  have hown : s.vm.findClass "OutStation" = some m.cls := findClass_of_methodNamed B.named
  subst hsz
  have hD := hD0.self (sz := s.heap.size)
  generalize hAe : va_A (wdX9_checkOf G a_p0 N_p0 p0) s.heap.size = A at hD ⊢
  have hA : ∀ q : Nat, s.heap.size ≤ q → A q := fun q h => by rw [← hAe]; exact Or.inr h
  have hS : va_S A s.heap s.heap [] := va_S.rf
  have hl := lv_entry ([.ref a_p0, .int x1, .int x2]) (n := 5) (Nat.le_of_ble_eq_true rfl)
  rw [lg_entry_eq]
  generalize (lg_sl ([.ref a_p0, .int x1, .int x2]) ++ List.replicate (5 - (lg_sl ([.ref a_p0, .int x1, .int x2])).length) Slot.unset).toArray = ls at hl ⊢
  exact wX9_checkOf_E ⟨B.exec, B.bytes, B.returns, hml, hown, hts, B.notSynchronized, hA, hK⟩ x1 x2 _ _ _ h hP hD hS hl
/-! ### OutStation.frameLength (I)I -/
abbrev wdX9_frameLength (G : GT) : va_W := []
abbrev wsX9_frameLength : List Cond := .code yX9_frameLength cX9_frameLength 2 (some .int) :: BG
abbrev rmX9_frameLength : Room := { frames := 0, cells := 0, slots := 0, locals := 0 }
noncomputable def fX9_frameLength (x0 : Int32) : Option (Int32) := some ((((10 : Int32) + x0) + ((2 : Int32) * (((x0 + (16 : Int32)) - (1 : Int32)) / (16 : Int32)))))
set_option maxHeartbeats 4000000 in
set_option maxRecDepth 100000 in
theorem wX9_frameLength_E {p : Program} {l : Launch} {e : Env} {s : State} {m : MethodId} {args : Array Value} {below : List Frame} {meth : Method} {c : Code} {G : GT} {A : Nat → Prop} (C : cxt p s m args meth c cX9_frameLength (some .int) 2 "OutStation" wsX9_frameLength G A) {out : Int32} : ∀ (x0 : Int32) (H : Heap) (locs : List Loc) (ls : Array Slot), fX9_frameLength x0 = some out → va_P G.1 vwCl (wdX9_frameLength G) H → va_D A (wdX9_frameLength G) → va_S A s.heap H locs → lv_has ls 2 [(0, .int x0)] → W p l e rmX9_frameLength s m args below meth c H locs 0 0 (MQ below (gQi G A out (wdX9_frameLength G)) args s 0 0 A) (F0 m 0 ls []) := by
  obtain ⟨hx, hb, hr, hml, hown, hts, hlocks, hA, hK⟩ := id C
  have hB : ∀ w ∈ BG, w.before args s = true := fun w h => hts w (List.mem_cons_of_mem _ h)
  intro x0 H locs ls h hP hD hS hl
  unfold fX9_frameLength at h
  refine lv_iload_n hx hb dX9_frameLength_0 rfl (lv_at hl 0 rfl) ?_
  refine lv_bipush (v := (16 : Int32)) hx hb dX9_frameLength_1 (by decide) ?_
  refine lv_iadd hx hb dX9_frameLength_3 ?_
  refine lv_iconst (v := (1 : Int32)) hx hb dX9_frameLength_4 (by decide) ?_
  refine lv_isub hx hb dX9_frameLength_5 ?_
  refine lv_bipush (v := (16 : Int32)) hx hb dX9_frameLength_6 (by decide) ?_
  refine lv_idiv hx hb dX9_frameLength_8 (by decide) ?_
  refine lv_istore_n (lv' := [(1, .int (((x0 + (16 : Int32)) - (1 : Int32)) / (16 : Int32))), (0, .int x0)]) hx hb dX9_frameLength_9 rfl hl (by decide) rfl (fun ls hl => ?_)
  refine lv_bipush (v := (10 : Int32)) hx hb dX9_frameLength_10 (by decide) ?_
  refine lv_iload_n hx hb dX9_frameLength_12 rfl (lv_at hl 1 rfl) ?_
  refine lv_iadd hx hb dX9_frameLength_13 ?_
  refine lv_iconst (v := (2 : Int32)) hx hb dX9_frameLength_14 (by decide) ?_
  refine lv_iload_n hx hb dX9_frameLength_15 rfl (lv_at hl 0 rfl) ?_
  refine lv_imul hx hb dX9_frameLength_16 ?_
  refine lv_iadd hx hb dX9_frameLength_17 ?_
  obtain rfl := Option.some.inj h
  exact W.iret (v := (((10 : Int32) + x0) + ((2 : Int32) * (((x0 + (16 : Int32)) - (1 : Int32)) / (16 : Int32))))) hx hb hr (fun t ht hW => ⟨⟨_, (), rfl, rfl, by rw [ht]; exact hP, hD⟩, hS.F ht⟩) hS.2.2 dX9_frameLength_18
set_option maxHeartbeats 4000000 in
set_option maxRecDepth 100000 in
theorem mX9_frameLength (l : Launch) (G : GT) (x0 : Int32) (sz : Nat) (out : Int32) (h : fX9_frameLength x0 = some out) : Met l yX9_frameLength wsX9_frameLength rmX9_frameLength (gPc G [.int x0] sz (wdX9_frameLength G)) (gQi G (va_A (wdX9_frameLength G) sz) out (wdX9_frameLength G)) 0 0 (va_A (wdX9_frameLength G) sz) := by
  refine Met.ofW (cc := cX9_frameLength) (maxL := 2) (ret := (some .int)) (by decide) rfl ?_
  intro p e s m args below meth c s₁ B hml hv
  obtain ⟨rfl, hsz, hP, hK, hD0⟩ := hv
  have hts := atoms_spec (ws := wsX9_frameLength) B.pre
  have hown : s.vm.findClass "OutStation" = some m.cls := findClass_of_methodNamed B.named
  subst hsz
  have hD := hD0.self (sz := s.heap.size)
  generalize hAe : va_A (wdX9_frameLength G) s.heap.size = A at hD ⊢
  have hA : ∀ q : Nat, s.heap.size ≤ q → A q := fun q h => by rw [← hAe]; exact Or.inr h
  have hS : va_S A s.heap s.heap [] := va_S.rf
  have hl := lv_entry ([.int x0]) (n := 2) (Nat.le_of_ble_eq_true rfl)
  rw [lg_entry_eq]
  generalize (lg_sl ([.int x0]) ++ List.replicate (2 - (lg_sl ([.int x0])).length) Slot.unset).toArray = ls at hl ⊢
  exact wX9_frameLength_E ⟨B.exec, B.bytes, B.returns, hml, hown, hts, B.notSynchronized, hA, hK⟩ x0 _ _ _ h hP hD hS hl
