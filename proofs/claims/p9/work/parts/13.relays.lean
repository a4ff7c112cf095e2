/-! ### OutStation$Relays.isWellFormed ([II)Z -/
abbrev wdX8_isWellFormed (G : GT) (a_p0 : Nat) (N_p0 : Nat) (p0 : Nat → Int32) : va_W := [(a_p0, .inl (G.2.1, N_p0, .inl p0))]
abbrev wsX8_isWellFormed : List Cond := .code yX8_isWellFormed cX8_isWellFormed 3 (some .boolean) :: BG
abbrev rmX8_isWellFormed : Room := { frames := 0, cells := 0, slots := 0, locals := 0 }
noncomputable def fX8_isWellFormed_L29 (N_p0 : Nat) (p0 : Nat → Int32) : Option (Int32) := some ((0 : Int32))
set_option maxHeartbeats 4000000 in
set_option maxRecDepth 100000 in
theorem wX8_isWellFormed_L29 {p : Program} {l : Launch} {e : Env} {s : State} {m : MethodId} {args : Array Value} {below : List Frame} {meth : Method} {c : Code} {G : GT} {A : Nat → Prop} (C : cxt p s m args meth c cX8_isWellFormed (some .boolean) 3 "OutStation$Relays" wsX8_isWellFormed G A) {a_p0 : Nat} {N_p0 : Nat} {p0 : Nat → Int32} {out : Int32} : ∀ (H : Heap) (locs : List Loc) (ls : Array Slot), fX8_isWellFormed_L29 N_p0 p0 = some out → va_P G.1 vwCl (wdX8_isWellFormed G a_p0 N_p0 p0) H → va_D A (wdX8_isWellFormed G a_p0 N_p0 p0) → va_S A s.heap H locs → lv_has ls 3 [] → W p l e rmX8_isWellFormed s m args below meth c H locs 0 0 (MQ below (gQi G A out (wdX8_isWellFormed G a_p0 N_p0 p0)) args s 0 0 A) (F0 m 29 ls []) := by
  obtain ⟨hx, hb, hr, hml, hown, hts, hlocks, hA, hK⟩ := id C
  have hB : ∀ w ∈ BG, w.before args s = true := fun w h => hts w (List.mem_cons_of_mem _ h)
  intro H locs ls h hP hD hS hl
  unfold fX8_isWellFormed_L29 at h
  refine lv_iconst (v := (0 : Int32)) hx hb dX8_isWellFormed_29 (by decide) ?_
  obtain rfl := Option.some.inj h
  exact W.zret (v := (0 : Int32)) hx hb hr (isB_nar (Or.inl rfl)) (fun t ht hW => ⟨⟨_, (), rfl, rfl, by rw [ht]; exact hP, hD⟩, hS.F ht⟩) hS.2.2 dX8_isWellFormed_30
noncomputable def fX8_isWellFormed_L62 (N_p0 : Nat) (p0 : Nat → Int32) (s0 : Int32) : Option (Int32) := grd (isB s0) (some (s0))
set_option maxHeartbeats 4000000 in
set_option maxRecDepth 100000 in
theorem wX8_isWellFormed_L62 {p : Program} {l : Launch} {e : Env} {s : State} {m : MethodId} {args : Array Value} {below : List Frame} {meth : Method} {c : Code} {G : GT} {A : Nat → Prop} (C : cxt p s m args meth c cX8_isWellFormed (some .boolean) 3 "OutStation$Relays" wsX8_isWellFormed G A) {a_p0 : Nat} {N_p0 : Nat} {p0 : Nat → Int32} {out : Int32} : ∀ (s0 : Int32) (H : Heap) (locs : List Loc) (ls : Array Slot), fX8_isWellFormed_L62 N_p0 p0 s0 = some out → va_P G.1 vwCl (wdX8_isWellFormed G a_p0 N_p0 p0) H → va_D A (wdX8_isWellFormed G a_p0 N_p0 p0) → va_S A s.heap H locs → lv_has ls 3 [] → W p l e rmX8_isWellFormed s m args below meth c H locs 0 0 (MQ below (gQi G A out (wdX8_isWellFormed G a_p0 N_p0 p0)) args s 0 0 A) (F0 m 62 ls [.int s0]) := by
  obtain ⟨hx, hb, hr, hml, hown, hts, hlocks, hA, hK⟩ := id C
  have hB : ∀ w ∈ BG, w.before args s = true := fun w h => hts w (List.mem_cons_of_mem _ h)
  intro s0 H locs ls h hP hD hS hl
  unfold fX8_isWellFormed_L62 at h
  obtain ⟨hg1, h⟩ := grd_some h
  obtain rfl := Option.some.inj h
  exact W.zret (v := s0) hx hb hr (isB_nar hg1) (fun t ht hW => ⟨⟨_, (), rfl, rfl, by rw [ht]; exact hP, hD⟩, hS.F ht⟩) hS.2.2 dX8_isWellFormed_62
noncomputable def fX8_isWellFormed_L61 (N_p0 : Nat) (p0 : Nat → Int32) : Option (Int32) := fX8_isWellFormed_L62 N_p0 p0 (0 : Int32)
set_option maxHeartbeats 4000000 in
set_option maxRecDepth 100000 in
theorem wX8_isWellFormed_L61 {p : Program} {l : Launch} {e : Env} {s : State} {m : MethodId} {args : Array Value} {below : List Frame} {meth : Method} {c : Code} {G : GT} {A : Nat → Prop} (C : cxt p s m args meth c cX8_isWellFormed (some .boolean) 3 "OutStation$Relays" wsX8_isWellFormed G A) {a_p0 : Nat} {N_p0 : Nat} {p0 : Nat → Int32} {out : Int32} : ∀ (H : Heap) (locs : List Loc) (ls : Array Slot), fX8_isWellFormed_L61 N_p0 p0 = some out → va_P G.1 vwCl (wdX8_isWellFormed G a_p0 N_p0 p0) H → va_D A (wdX8_isWellFormed G a_p0 N_p0 p0) → va_S A s.heap H locs → lv_has ls 3 [] → W p l e rmX8_isWellFormed s m args below meth c H locs 0 0 (MQ below (gQi G A out (wdX8_isWellFormed G a_p0 N_p0 p0)) args s 0 0 A) (F0 m 61 ls []) := by
  obtain ⟨hx, hb, hr, hml, hown, hts, hlocks, hA, hK⟩ := id C
  have hB : ∀ w ∈ BG, w.before args s = true := fun w h => hts w (List.mem_cons_of_mem _ h)
  intro H locs ls h hP hD hS hl
  unfold fX8_isWellFormed_L61 at h
  refine lv_iconst (v := (0 : Int32)) hx hb dX8_isWellFormed_61 (by decide) ?_
  exact wX8_isWellFormed_L62 C (0 : Int32) _ _ _ h hP hD hS (lv_sub hl [] rfl)
noncomputable def fX8_isWellFormed (N_p0 : Nat) (p0 : Nat → Int32) (x1 : Int32) : Option (Int32) := brc (x1 < (6 : Int32)) (fX8_isWellFormed_L29 N_p0 p0) (grd (vp_in (2 : Int32) N_p0) (brc ((p0 (ix (2 : Int32))) = (12 : Int32)) (grd (vp_in (3 : Int32) N_p0) (brc ((p0 (ix (3 : Int32))) = (1 : Int32)) (grd (vp_in (4 : Int32) N_p0) (brc ((p0 (ix (4 : Int32))) = (23 : Int32)) (grd (vp_in (5 : Int32) N_p0) (brc ((p0 (ix (5 : Int32))) < (1 : Int32)) (fX8_isWellFormed_L61 N_p0 p0) (brc ((8 : Int32) < (p0 (ix (5 : Int32)))) (fX8_isWellFormed_L61 N_p0 p0) (brc (x1 = ((6 : Int32) + ((12 : Int32) * (p0 (ix (5 : Int32)))))) (fX8_isWellFormed_L62 N_p0 p0 (1 : Int32)) (fX8_isWellFormed_L61 N_p0 p0))))) (fX8_isWellFormed_L29 N_p0 p0))) (fX8_isWellFormed_L29 N_p0 p0))) (fX8_isWellFormed_L29 N_p0 p0)))
set_option maxHeartbeats 4000000 in
set_option maxRecDepth 100000 in
theorem wX8_isWellFormed_E {p : Program} {l : Launch} {e : Env} {s : State} {m : MethodId} {args : Array Value} {below : List Frame} {meth : Method} {c : Code} {G : GT} {A : Nat → Prop} (C : cxt p s m args meth c cX8_isWellFormed (some .boolean) 3 "OutStation$Relays" wsX8_isWellFormed G A) {a_p0 : Nat} {N_p0 : Nat} {p0 : Nat → Int32} {out : Int32} : ∀ (x1 : Int32) (H : Heap) (locs : List Loc) (ls : Array Slot), fX8_isWellFormed N_p0 p0 x1 = some out → va_P G.1 vwCl (wdX8_isWellFormed G a_p0 N_p0 p0) H → va_D A (wdX8_isWellFormed G a_p0 N_p0 p0) → va_S A s.heap H locs → lv_has ls 3 [(0, .ref a_p0), (1, .int x1)] → W p l e rmX8_isWellFormed s m args below meth c H locs 0 0 (MQ below (gQi G A out (wdX8_isWellFormed G a_p0 N_p0 p0)) args s 0 0 A) (F0 m 0 ls []) := by
  obtain ⟨hx, hb, hr, hml, hown, hts, hlocks, hA, hK⟩ := id C
  have hB : ∀ w ∈ BG, w.before args s = true := fun w h => hts w (List.mem_cons_of_mem _ h)
  intro x1 H locs ls h hP hD hS hl
  unfold fX8_isWellFormed at h
  refine lv_iload_n hx hb dX8_isWellFormed_0 rfl (lv_at hl 1 rfl) ?_
  refine lv_bipush (v := (6 : Int32)) hx hb dX8_isWellFormed_1 (by decide) ?_
  refine lv_icmp_lt (tgt := 29) hx hb dX8_isWellFormed_3 (by decide) (fun hc3 => ?_) (fun hc3 => ?_)
  · have h := brc_tt h hc3
    exact wX8_isWellFormed_L29 C _ _ _ h hP hD hS (lv_sub hl [] rfl)
  · have h := brc_ff h hc3
    refine lv_aload_n hx hb dX8_isWellFormed_6 rfl (lv_at hl 0 rfl) ?_
    refine lv_iconst (v := (2 : Int32)) hx hb dX8_isWellFormed_7 (by decide) ?_
    obtain ⟨hg1, h⟩ := grd_some h
    refine va_iald hx hb hK.1 hP 0 0 rfl rfl hg1 dX8_isWellFormed_8 ?_
    refine lv_bipush (v := (12 : Int32)) hx hb dX8_isWellFormed_9 (by decide) ?_
    refine lv_icmp_ne (tgt := 29) hx hb dX8_isWellFormed_11 (by decide) (fun hc11 => ?_) (fun hc11 => ?_)
    · have h := brc_ff h hc11
      exact wX8_isWellFormed_L29 C _ _ _ h hP hD hS (lv_sub hl [] rfl)
    · have h := brc_tt h hc11
      refine lv_aload_n hx hb dX8_isWellFormed_14 rfl (lv_at hl 0 rfl) ?_
      refine lv_iconst (v := (3 : Int32)) hx hb dX8_isWellFormed_15 (by decide) ?_
      obtain ⟨hg2, h⟩ := grd_some h
      refine va_iald hx hb hK.1 hP 0 0 rfl rfl hg2 dX8_isWellFormed_16 ?_
      refine lv_iconst (v := (1 : Int32)) hx hb dX8_isWellFormed_17 (by decide) ?_
      refine lv_icmp_ne (tgt := 29) hx hb dX8_isWellFormed_18 (by decide) (fun hc18 => ?_) (fun hc18 => ?_)
      · have h := brc_ff h hc18
        exact wX8_isWellFormed_L29 C _ _ _ h hP hD hS (lv_sub hl [] rfl)
      · have h := brc_tt h hc18
        refine lv_aload_n hx hb dX8_isWellFormed_21 rfl (lv_at hl 0 rfl) ?_
        refine lv_iconst (v := (4 : Int32)) hx hb dX8_isWellFormed_22 (by decide) ?_
        obtain ⟨hg3, h⟩ := grd_some h
        refine va_iald hx hb hK.1 hP 0 0 rfl rfl hg3 dX8_isWellFormed_23 ?_
        refine lv_bipush (v := (23 : Int32)) hx hb dX8_isWellFormed_24 (by decide) ?_
        refine lv_icmp_eq (tgt := 31) hx hb dX8_isWellFormed_26 (by decide) (fun hc26 => ?_) (fun hc26 => ?_)
        · have h := brc_tt h hc26
          refine lv_aload_n hx hb dX8_isWellFormed_31 rfl (lv_at hl 0 rfl) ?_
          refine lv_iconst (v := (5 : Int32)) hx hb dX8_isWellFormed_32 (by decide) ?_
          obtain ⟨hg4, h⟩ := grd_some h
          refine va_iald hx hb hK.1 hP 0 0 rfl rfl hg4 dX8_isWellFormed_33 ?_
          refine lv_istore_n (lv' := [(2, .int (p0 (ix (5 : Int32)))), (0, .ref a_p0), (1, .int x1)]) hx hb dX8_isWellFormed_34 rfl hl (by decide) rfl (fun ls hl => ?_)
          refine lv_iload_n hx hb dX8_isWellFormed_35 rfl (lv_at hl 0 rfl) ?_
          refine lv_iconst (v := (1 : Int32)) hx hb dX8_isWellFormed_36 (by decide) ?_
          refine lv_icmp_lt (tgt := 61) hx hb dX8_isWellFormed_37 (by decide) (fun hc37 => ?_) (fun hc37 => ?_)
          · have h := brc_tt h hc37
            exact wX8_isWellFormed_L61 C _ _ _ h hP hD hS (lv_sub hl [] rfl)
          · have h := brc_ff h hc37
            refine lv_iload_n hx hb dX8_isWellFormed_40 rfl (lv_at hl 0 rfl) ?_
            refine lv_bipush (v := (8 : Int32)) hx hb dX8_isWellFormed_41 (by decide) ?_
            refine lv_icmp_gt (tgt := 61) hx hb dX8_isWellFormed_43 (by decide) (fun hc43 => ?_) (fun hc43 => ?_)
            · have h := brc_tt h hc43
              exact wX8_isWellFormed_L61 C _ _ _ h hP hD hS (lv_sub hl [] rfl)
            · have h := brc_ff h hc43
              refine lv_iload_n hx hb dX8_isWellFormed_46 rfl (lv_at hl 2 rfl) ?_
              refine lv_bipush (v := (6 : Int32)) hx hb dX8_isWellFormed_47 (by decide) ?_
              refine lv_bipush (v := (12 : Int32)) hx hb dX8_isWellFormed_49 (by decide) ?_
              refine lv_iload_n hx hb dX8_isWellFormed_51 rfl (lv_at hl 0 rfl) ?_
              refine lv_imul hx hb dX8_isWellFormed_52 ?_
              refine lv_iadd hx hb dX8_isWellFormed_53 ?_
              refine lv_icmp_ne (tgt := 61) hx hb dX8_isWellFormed_54 (by decide) (fun hc54 => ?_) (fun hc54 => ?_)
              · have h := brc_ff h hc54
                exact wX8_isWellFormed_L61 C _ _ _ h hP hD hS (lv_sub hl [] rfl)
              · have h := brc_tt h hc54
                refine lv_iconst (v := (1 : Int32)) hx hb dX8_isWellFormed_57 (by decide) ?_
                refine lv_goto (tgt := 62) hx hb dX8_isWellFormed_58 (by decide) ?_
                exact wX8_isWellFormed_L62 C (1 : Int32) _ _ _ h hP hD hS (lv_sub hl [] rfl)
        · have h := brc_ff h hc26
          exact wX8_isWellFormed_L29 C _ _ _ h hP hD hS (lv_sub hl [] rfl)
set_option maxHeartbeats 4000000 in
set_option maxRecDepth 100000 in
theorem mX8_isWellFormed (l : Launch) (G : GT) (a_p0 : Nat) (N_p0 : Nat) (p0 : Nat → Int32) (x1 : Int32) (sz : Nat) (out : Int32) (h : fX8_isWellFormed N_p0 p0 x1 = some out) : Met l yX8_isWellFormed wsX8_isWellFormed rmX8_isWellFormed (gPc G [.ref a_p0, .int x1] sz (wdX8_isWellFormed G a_p0 N_p0 p0)) (gQi G (va_A (wdX8_isWellFormed G a_p0 N_p0 p0) sz) out (wdX8_isWellFormed G a_p0 N_p0 p0)) 0 0 (va_A (wdX8_isWellFormed G a_p0 N_p0 p0) sz) := by
  refine Met.ofW (cc := cX8_isWellFormed) (maxL := 3) (ret := (some .boolean)) (by decide) rfl ?_
  intro p e s m args below meth c s₁ B hml hv
  obtain ⟨rfl, hsz, hP, hK, hD0⟩ := hv
  have hts := atoms_spec (ws := wsX8_isWellFormed) B.pre
  have hown : s.vm.findClass "OutStation$Relays" = some m.cls := findClass_of_methodNamed B.named
  subst hsz
  have hD := hD0.self (sz := s.heap.size)
  generalize hAe : va_A (wdX8_isWellFormed G a_p0 N_p0 p0) s.heap.size = A at hD ⊢
  have hA : ∀ q : Nat, s.heap.size ≤ q → A q := fun q h => by rw [← hAe]; exact Or.inr h
  have hS : va_S A s.heap s.heap [] := va_S.rf
  have hl := lv_entry ([.ref a_p0, .int x1]) (n := 3) (Nat.le_of_ble_eq_true rfl)
  rw [lg_entry_eq]
  generalize (lg_sl ([.ref a_p0, .int x1]) ++ List.replicate (3 - (lg_sl ([.ref a_p0, .int x1])).length) Slot.unset).toArray = ls at hl ⊢
  exact wX8_isWellFormed_E ⟨B.exec, B.bytes, B.returns, hml, hown, hts, B.notSynchronized, hA, hK⟩ x1 _ _ _ h hP hD hS hl
/-! ### OutStation$Relays.isKnown (II)Z -/
abbrev wdX8_isKnown (G : GT) : va_W := []
abbrev wsX8_isKnown : List Cond := .code yX8_isKnown cX8_isKnown 2 (some .boolean) :: BG
abbrev rmX8_isKnown : Room := { frames := 0, cells := 0, slots := 0, locals := 0 }
noncomputable def fX8_isKnown_L25 (s0 : Int32) : Option (Int32) := grd (isB s0) (some (s0))
set_option maxHeartbeats 4000000 in
set_option maxRecDepth 100000 in
theorem wX8_isKnown_L25 {p : Program} {l : Launch} {e : Env} {s : State} {m : MethodId} {args : Array Value} {below : List Frame} {meth : Method} {c : Code} {G : GT} {A : Nat → Prop} (C : cxt p s m args meth c cX8_isKnown (some .boolean) 2 "OutStation$Relays" wsX8_isKnown G A) {out : Int32} : ∀ (s0 : Int32) (H : Heap) (locs : List Loc) (ls : Array Slot), fX8_isKnown_L25 s0 = some out → va_P G.1 vwCl (wdX8_isKnown G) H → va_D A (wdX8_isKnown G) → va_S A s.heap H locs → lv_has ls 2 [] → W p l e rmX8_isKnown s m args below meth c H locs 0 0 (MQ below (gQi G A out (wdX8_isKnown G)) args s 0 0 A) (F0 m 25 ls [.int s0]) := by
  obtain ⟨hx, hb, hr, hml, hown, hts, hlocks, hA, hK⟩ := id C
  have hB : ∀ w ∈ BG, w.before args s = true := fun w h => hts w (List.mem_cons_of_mem _ h)
  intro s0 H locs ls h hP hD hS hl
  unfold fX8_isKnown_L25 at h
  obtain ⟨hg1, h⟩ := grd_some h
  obtain rfl := Option.some.inj h
  exact W.zret (v := s0) hx hb hr (isB_nar hg1) (fun t ht hW => ⟨⟨_, (), rfl, rfl, by rw [ht]; exact hP, hD⟩, hS.F ht⟩) hS.2.2 dX8_isKnown_25
noncomputable def fX8_isKnown_L24 : Option (Int32) := fX8_isKnown_L25 (0 : Int32)
set_option maxHeartbeats 4000000 in
set_option maxRecDepth 100000 in
theorem wX8_isKnown_L24 {p : Program} {l : Launch} {e : Env} {s : State} {m : MethodId} {args : Array Value} {below : List Frame} {meth : Method} {c : Code} {G : GT} {A : Nat → Prop} (C : cxt p s m args meth c cX8_isKnown (some .boolean) 2 "OutStation$Relays" wsX8_isKnown G A) {out : Int32} : ∀ (H : Heap) (locs : List Loc) (ls : Array Slot), fX8_isKnown_L24 = some out → va_P G.1 vwCl (wdX8_isKnown G) H → va_D A (wdX8_isKnown G) → va_S A s.heap H locs → lv_has ls 2 [] → W p l e rmX8_isKnown s m args below meth c H locs 0 0 (MQ below (gQi G A out (wdX8_isKnown G)) args s 0 0 A) (F0 m 24 ls []) := by
  obtain ⟨hx, hb, hr, hml, hown, hts, hlocks, hA, hK⟩ := id C
  have hB : ∀ w ∈ BG, w.before args s = true := fun w h => hts w (List.mem_cons_of_mem _ h)
  intro H locs ls h hP hD hS hl
  unfold fX8_isKnown_L24 at h
  refine lv_iconst (v := (0 : Int32)) hx hb dX8_isKnown_24 (by decide) ?_
  exact wX8_isKnown_L25 C (0 : Int32) _ _ _ h hP hD hS (lv_sub hl [] rfl)
noncomputable def fX8_isKnown_L20 : Option (Int32) := fX8_isKnown_L25 (1 : Int32)
set_option maxHeartbeats 4000000 in
set_option maxRecDepth 100000 in
theorem wX8_isKnown_L20 {p : Program} {l : Launch} {e : Env} {s : State} {m : MethodId} {args : Array Value} {below : List Frame} {meth : Method} {c : Code} {G : GT} {A : Nat → Prop} (C : cxt p s m args meth c cX8_isKnown (some .boolean) 2 "OutStation$Relays" wsX8_isKnown G A) {out : Int32} : ∀ (H : Heap) (locs : List Loc) (ls : Array Slot), fX8_isKnown_L20 = some out → va_P G.1 vwCl (wdX8_isKnown G) H → va_D A (wdX8_isKnown G) → va_S A s.heap H locs → lv_has ls 2 [] → W p l e rmX8_isKnown s m args below meth c H locs 0 0 (MQ below (gQi G A out (wdX8_isKnown G)) args s 0 0 A) (F0 m 20 ls []) := by
  obtain ⟨hx, hb, hr, hml, hown, hts, hlocks, hA, hK⟩ := id C
  have hB : ∀ w ∈ BG, w.before args s = true := fun w h => hts w (List.mem_cons_of_mem _ h)
  intro H locs ls h hP hD hS hl
  unfold fX8_isKnown_L20 at h
  refine lv_iconst (v := (1 : Int32)) hx hb dX8_isKnown_20 (by decide) ?_
  refine lv_goto (tgt := 25) hx hb dX8_isKnown_21 (by decide) ?_
  exact wX8_isKnown_L25 C (1 : Int32) _ _ _ h hP hD hS (lv_sub hl [] rfl)
noncomputable def fX8_isKnown (x0 : Int32) (x1 : Int32) : Option (Int32) := brc (x0 < 0) (fX8_isKnown_L24) (brc ((8 : Int32) ≤ x0) (fX8_isKnown_L24) (brc (x1 = (3 : Int32)) (fX8_isKnown_L20) (brc (x1 = (4 : Int32)) (fX8_isKnown_L20) (fX8_isKnown_L24))))
set_option maxHeartbeats 4000000 in
set_option maxRecDepth 100000 in
theorem wX8_isKnown_E {p : Program} {l : Launch} {e : Env} {s : State} {m : MethodId} {args : Array Value} {below : List Frame} {meth : Method} {c : Code} {G : GT} {A : Nat → Prop} (C : cxt p s m args meth c cX8_isKnown (some .boolean) 2 "OutStation$Relays" wsX8_isKnown G A) {out : Int32} : ∀ (x0 : Int32) (x1 : Int32) (H : Heap) (locs : List Loc) (ls : Array Slot), fX8_isKnown x0 x1 = some out → va_P G.1 vwCl (wdX8_isKnown G) H → va_D A (wdX8_isKnown G) → va_S A s.heap H locs → lv_has ls 2 [(0, .int x0), (1, .int x1)] → W p l e rmX8_isKnown s m args below meth c H locs 0 0 (MQ below (gQi G A out (wdX8_isKnown G)) args s 0 0 A) (F0 m 0 ls []) := by
  obtain ⟨hx, hb, hr, hml, hown, hts, hlocks, hA, hK⟩ := id C
  have hB : ∀ w ∈ BG, w.before args s = true := fun w h => hts w (List.mem_cons_of_mem _ h)
  intro x0 x1 H locs ls h hP hD hS hl
  unfold fX8_isKnown at h
  refine lv_iload_n hx hb dX8_isKnown_0 rfl (lv_at hl 0 rfl) ?_
  refine lv_if_lt (tgt := 24) hx hb dX8_isKnown_1 (by decide) (fun hc1 => ?_) (fun hc1 => ?_)
  · have h := brc_tt h hc1
    exact wX8_isKnown_L24 C _ _ _ h hP hD hS (lv_sub hl [] rfl)
  · have h := brc_ff h hc1
    refine lv_iload_n hx hb dX8_isKnown_4 rfl (lv_at hl 0 rfl) ?_
    refine lv_bipush (v := (8 : Int32)) hx hb dX8_isKnown_5 (by decide) ?_
    refine lv_icmp_ge (tgt := 24) hx hb dX8_isKnown_7 (by decide) (fun hc7 => ?_) (fun hc7 => ?_)
    · have h := brc_tt h hc7
      exact wX8_isKnown_L24 C _ _ _ h hP hD hS (lv_sub hl [] rfl)
    · have h := brc_ff h hc7
      refine lv_iload_n hx hb dX8_isKnown_10 rfl (lv_at hl 1 rfl) ?_
      refine lv_iconst (v := (3 : Int32)) hx hb dX8_isKnown_11 (by decide) ?_
      refine lv_icmp_eq (tgt := 20) hx hb dX8_isKnown_12 (by decide) (fun hc12 => ?_) (fun hc12 => ?_)
      · have h := brc_tt h hc12
        exact wX8_isKnown_L20 C _ _ _ h hP hD hS (lv_sub hl [] rfl)
      · have h := brc_ff h hc12
        refine lv_iload_n hx hb dX8_isKnown_15 rfl (lv_at hl 1 rfl) ?_
        refine lv_iconst (v := (4 : Int32)) hx hb dX8_isKnown_16 (by decide) ?_
        refine lv_icmp_ne (tgt := 24) hx hb dX8_isKnown_17 (by decide) (fun hc17 => ?_) (fun hc17 => ?_)
        · have h := brc_ff h hc17
          exact wX8_isKnown_L24 C _ _ _ h hP hD hS (lv_sub hl [] rfl)
        · have h := brc_tt h hc17
          exact wX8_isKnown_L20 C _ _ _ h hP hD hS (lv_sub hl [] rfl)
set_option maxHeartbeats 4000000 in
set_option maxRecDepth 100000 in
theorem mX8_isKnown (l : Launch) (G : GT) (x0 : Int32) (x1 : Int32) (sz : Nat) (out : Int32) (h : fX8_isKnown x0 x1 = some out) : Met l yX8_isKnown wsX8_isKnown rmX8_isKnown (gPc G [.int x0, .int x1] sz (wdX8_isKnown G)) (gQi G (va_A (wdX8_isKnown G) sz) out (wdX8_isKnown G)) 0 0 (va_A (wdX8_isKnown G) sz) := by
  refine Met.ofW (cc := cX8_isKnown) (maxL := 2) (ret := (some .boolean)) (by decide) rfl ?_
  intro p e s m args below meth c s₁ B hml hv
  obtain ⟨rfl, hsz, hP, hK, hD0⟩ := hv
  have hts := atoms_spec (ws := wsX8_isKnown) B.pre
  have hown : s.vm.findClass "OutStation$Relays" = some m.cls := findClass_of_methodNamed B.named
  subst hsz
  have hD := hD0.self (sz := s.heap.size)
  generalize hAe : va_A (wdX8_isKnown G) s.heap.size = A at hD ⊢
  have hA : ∀ q : Nat, s.heap.size ≤ q → A q := fun q h => by rw [← hAe]; exact Or.inr h
  have hS : va_S A s.heap s.heap [] := va_S.rf
  have hl := lv_entry ([.int x0, .int x1]) (n := 2) (Nat.le_of_ble_eq_true rfl)
  rw [lg_entry_eq]
  generalize (lg_sl ([.int x0, .int x1]) ++ List.replicate (2 - (lg_sl ([.int x0, .int x1])).length) Slot.unset).toArray = ls at hl ⊢
  exact wX8_isKnown_E ⟨B.exec, B.bytes, B.returns, hml, hown, hts, B.notSynchronized, hA, hK⟩ x0 x1 _ _ _ h hP hD hS hl
/-! ### OutStation$Relays.codeOf (I)I -/
abbrev wdX8_codeOf (G : GT) (a_t : Nat) (a_t_codes : Nat) (a_t_selected : Nat) (t_timeout : Int32) (t_acted : Int32) (t_selectedLength : Int32) (t_selectedTick : Int32) (t_codes : Nat → Int32) : va_W := [(a_t, .inr (8, [.int t_timeout, .ref a_t_codes, .int t_acted, .ref a_t_selected, .int t_selectedLength, .int t_selectedTick])), (a_t_codes, .inl (G.2.1, 8, .inl t_codes))]
abbrev wsX8_codeOf : List Cond := .code yX8_codeOf cX8_codeOf 2 (some .int) :: BG
abbrev rmX8_codeOf : Room := { frames := 0, cells := 0, slots := 0, locals := 0 }
noncomputable def fX8_codeOf (t_codes : Nat → Int32) (x1 : Int32) : Option (Int32) := grd (vp_in x1 8) (some ((t_codes (ix x1))))
set_option maxHeartbeats 4000000 in
set_option maxRecDepth 100000 in
theorem wX8_codeOf_E {p : Program} {l : Launch} {e : Env} {s : State} {m : MethodId} {args : Array Value} {below : List Frame} {meth : Method} {c : Code} {G : GT} {A : Nat → Prop} (C : cxt p s m args meth c cX8_codeOf (some .int) 2 "OutStation$Relays" wsX8_codeOf G A) {a_t : Nat} {a_t_codes : Nat} {a_t_selected : Nat} {t_timeout : Int32} {t_acted : Int32} {t_selectedLength : Int32} {t_selectedTick : Int32} {t_codes : Nat → Int32} {out : Int32} : ∀ (x1 : Int32) (H : Heap) (locs : List Loc) (ls : Array Slot), fX8_codeOf t_codes x1 = some out → va_P G.1 vwCl (wdX8_codeOf G a_t a_t_codes a_t_selected t_timeout t_acted t_selectedLength t_selectedTick t_codes) H → va_D A (wdX8_codeOf G a_t a_t_codes a_t_selected t_timeout t_acted t_selectedLength t_selectedTick t_codes) → va_S A s.heap H locs → lv_has ls 2 [(0, .ref a_t), (1, .int x1)] → W p l e rmX8_codeOf s m args below meth c H locs 0 0 (MQ below (gQi G A out (wdX8_codeOf G a_t a_t_codes a_t_selected t_timeout t_acted t_selectedLength t_selectedTick t_codes)) args s 0 0 A) (F0 m 0 ls []) := by
  obtain ⟨hx, hb, hr, hml, hown, hts, hlocks, hA, hK⟩ := id C
  have hB : ∀ w ∈ BG, w.before args s = true := fun w h => hts w (List.mem_cons_of_mem _ h)
  intro x1 H locs ls h hP hD hS hl
  unfold fX8_codeOf at h
  refine lv_aload_n hx hb dX8_codeOf_0 rfl (lv_at hl 0 rfl) ?_
  refine va_get (D := G.1) (ci := 8) (v := .ref a_t_codes) (C := RX8) (T := TX8) (N := 6) hx hb hB iX8 hown hK.1 hP 0 rfl rfl 1 (by decide) (hB _ kw271) (fun _ h9 => h9) rfl dX8_codeOf_1 ?_
  refine lv_iload_n hx hb dX8_codeOf_4 rfl (lv_at hl 1 rfl) ?_
  obtain ⟨hg1, h⟩ := grd_some h
  refine va_iald hx hb hK.1 hP 1 0 rfl rfl hg1 dX8_codeOf_5 ?_
  obtain rfl := Option.some.inj h
  exact W.iret (v := (t_codes (ix x1))) hx hb hr (fun t ht hW => ⟨⟨_, (), rfl, rfl, by rw [ht]; exact hP, hD⟩, hS.F ht⟩) hS.2.2 dX8_codeOf_6
set_option maxHeartbeats 4000000 in
set_option maxRecDepth 100000 in
theorem mX8_codeOf (l : Launch) (G : GT) (a_t : Nat) (a_t_codes : Nat) (a_t_selected : Nat) (t_timeout : Int32) (t_acted : Int32) (t_selectedLength : Int32) (t_selectedTick : Int32) (t_codes : Nat → Int32) (x1 : Int32) (sz : Nat) (out : Int32) (h : fX8_codeOf t_codes x1 = some out) : Met l yX8_codeOf wsX8_codeOf rmX8_codeOf (gPc G [.ref a_t, .int x1] sz (wdX8_codeOf G a_t a_t_codes a_t_selected t_timeout t_acted t_selectedLength t_selectedTick t_codes)) (gQi G (va_A (wdX8_codeOf G a_t a_t_codes a_t_selected t_timeout t_acted t_selectedLength t_selectedTick t_codes) sz) out (wdX8_codeOf G a_t a_t_codes a_t_selected t_timeout t_acted t_selectedLength t_selectedTick t_codes)) 0 0 (va_A (wdX8_codeOf G a_t a_t_codes a_t_selected t_timeout t_acted t_selectedLength t_selectedTick t_codes) sz) := by
  refine Met.ofW (cc := cX8_codeOf) (maxL := 2) (ret := (some .int)) (by decide) rfl ?_
  intro p e s m args below meth c s₁ B hml hv
  obtain ⟨rfl, hsz, hP, hK, hD0⟩ := hv
  have hts := atoms_spec (ws := wsX8_codeOf) B.pre
  have hown : s.vm.findClass "OutStation$Relays" = some m.cls := findClass_of_methodNamed B.named
  subst hsz
  have hD := hD0.self (sz := s.heap.size)
  generalize hAe : va_A (wdX8_codeOf G a_t a_t_codes a_t_selected t_timeout t_acted t_selectedLength t_selectedTick t_codes) s.heap.size = A at hD ⊢
  have hA : ∀ q : Nat, s.heap.size ≤ q → A q := fun q h => by rw [← hAe]; exact Or.inr h
  have hS : va_S A s.heap s.heap [] := va_S.rf
  have hl := lv_entry ([.ref a_t, .int x1]) (n := 2) (Nat.le_of_ble_eq_true rfl)
  rw [lg_entry_eq]
  generalize (lg_sl ([.ref a_t, .int x1]) ++ List.replicate (2 - (lg_sl ([.ref a_t, .int x1])).length) Slot.unset).toArray = ls at hl ⊢
  exact wX8_codeOf_E ⟨B.exec, B.bytes, B.returns, hml, hown, hts, B.notSynchronized, hA, hK⟩ x1 _ _ _ h hP hD hS hl
/-! ### OutStation$Relays.acts ()I -/
abbrev wdX8_acts (G : GT) (a_t : Nat) (a_t_codes : Nat) (a_t_selected : Nat) (t_timeout : Int32) (t_acted : Int32) (t_selectedLength : Int32) (t_selectedTick : Int32) : va_W := [(a_t, .inr (8, [.int t_timeout, .ref a_t_codes, .int t_acted, .ref a_t_selected, .int t_selectedLength, .int t_selectedTick]))]
abbrev wsX8_acts : List Cond := .code yX8_acts cX8_acts 1 (some .int) :: BG
abbrev rmX8_acts : Room := { frames := 0, cells := 0, slots := 0, locals := 0 }
noncomputable def fX8_acts (t_acted : Int32) : Option (Int32) := some (t_acted)
set_option maxHeartbeats 4000000 in
set_option maxRecDepth 100000 in
theorem wX8_acts_E {p : Program} {l : Launch} {e : Env} {s : State} {m : MethodId} {args : Array Value} {below : List Frame} {meth : Method} {c : Code} {G : GT} {A : Nat → Prop} (C : cxt p s m args meth c cX8_acts (some .int) 1 "OutStation$Relays" wsX8_acts G A) {a_t : Nat} {a_t_codes : Nat} {a_t_selected : Nat} {t_timeout : Int32} {t_acted : Int32} {t_selectedLength : Int32} {t_selectedTick : Int32} {out : Int32} : ∀ (H : Heap) (locs : List Loc) (ls : Array Slot), fX8_acts t_acted = some out → va_P G.1 vwCl (wdX8_acts G a_t a_t_codes a_t_selected t_timeout t_acted t_selectedLength t_selectedTick) H → va_D A (wdX8_acts G a_t a_t_codes a_t_selected t_timeout t_acted t_selectedLength t_selectedTick) → va_S A s.heap H locs → lv_has ls 1 [(0, .ref a_t)] → W p l e rmX8_acts s m args below meth c H locs 0 0 (MQ below (gQi G A out (wdX8_acts G a_t a_t_codes a_t_selected t_timeout t_acted t_selectedLength t_selectedTick)) args s 0 0 A) (F0 m 0 ls []) := by
  obtain ⟨hx, hb, hr, hml, hown, hts, hlocks, hA, hK⟩ := id C
  have hB : ∀ w ∈ BG, w.before args s = true := fun w h => hts w (List.mem_cons_of_mem _ h)
  intro H locs ls h hP hD hS hl
  unfold fX8_acts at h
  refine lv_aload_n hx hb dX8_acts_0 rfl (lv_at hl 0 rfl) ?_
  refine va_get (D := G.1) (ci := 8) (v := .int t_acted) (C := RX8) (T := TX8) (N := 6) hx hb hB iX8 hown hK.1 hP 0 rfl rfl 2 (by decide) (hB _ kw272) (fun _ h9 => h9) rfl dX8_acts_1 ?_
  obtain rfl := Option.some.inj h
  exact W.iret (v := t_acted) hx hb hr (fun t ht hW => ⟨⟨_, (), rfl, rfl, by rw [ht]; exact hP, hD⟩, hS.F ht⟩) hS.2.2 dX8_acts_4
set_option maxHeartbeats 4000000 in
set_option maxRecDepth 100000 in
theorem mX8_acts (l : Launch) (G : GT) (a_t : Nat) (a_t_codes : Nat) (a_t_selected : Nat) (t_timeout : Int32) (t_acted : Int32) (t_selectedLength : Int32) (t_selectedTick : Int32) (sz : Nat) (out : Int32) (h : fX8_acts t_acted = some out) : Met l yX8_acts wsX8_acts rmX8_acts (gPc G [.ref a_t] sz (wdX8_acts G a_t a_t_codes a_t_selected t_timeout t_acted t_selectedLength t_selectedTick)) (gQi G (va_A (wdX8_acts G a_t a_t_codes a_t_selected t_timeout t_acted t_selectedLength t_selectedTick) sz) out (wdX8_acts G a_t a_t_codes a_t_selected t_timeout t_acted t_selectedLength t_selectedTick)) 0 0 (va_A (wdX8_acts G a_t a_t_codes a_t_selected t_timeout t_acted t_selectedLength t_selectedTick) sz) := by
  refine Met.ofW (cc := cX8_acts) (maxL := 1) (ret := (some .int)) (by decide) rfl ?_
  intro p e s m args below meth c s₁ B hml hv
  obtain ⟨rfl, hsz, hP, hK, hD0⟩ := hv
  have hts := atoms_spec (ws := wsX8_acts) B.pre
  have hown : s.vm.findClass "OutStation$Relays" = some m.cls := findClass_of_methodNamed B.named
  subst hsz
  have hD := hD0.self (sz := s.heap.size)
  generalize hAe : va_A (wdX8_acts G a_t a_t_codes a_t_selected t_timeout t_acted t_selectedLength t_selectedTick) s.heap.size = A at hD ⊢
  have hA : ∀ q : Nat, s.heap.size ≤ q → A q := fun q h => by rw [← hAe]; exact Or.inr h
  have hS : va_S A s.heap s.heap [] := va_S.rf
  have hl := lv_entry ([.ref a_t]) (n := 1) (Nat.le_of_ble_eq_true rfl)
  rw [lg_entry_eq]
  generalize (lg_sl ([.ref a_t]) ++ List.replicate (1 - (lg_sl ([.ref a_t])).length) Slot.unset).toArray = ls at hl ⊢
  exact wX8_acts_E ⟨B.exec, B.bytes, B.returns, hml, hown, hts, B.notSynchronized, hA, hK⟩  _ _ _ h hP hD hS hl
/-! ### OutStation$Relays.act (II)V -/
abbrev wdX8_act (G : GT) (a_t : Nat) (a_t_codes : Nat) (a_t_selected : Nat) (t_timeout : Int32) (t_acted : Int32) (t_selectedLength : Int32) (t_selectedTick : Int32) (t_codes : Nat → Int32) : va_W := [(a_t, .inr (8, [.int t_timeout, .ref a_t_codes, .int t_acted, .ref a_t_selected, .int t_selectedLength, .int t_selectedTick])), (a_t_codes, .inl (G.2.1, 8, .inl t_codes))]
abbrev wsX8_act : List Cond := .code yX8_act cX8_act 3 none :: BG
abbrev rmX8_act : Room := { frames := 0, cells := 0, slots := 0, locals := 0 }
noncomputable def fX8_act (x1 : Int32) (x2 : Int32) (t_acted : Int32) (t_codes : Nat → Int32) : Option (Int32 × (Nat → Int32)) := grd (vp_in x1 8) (some ((t_acted + (1 : Int32)), (upd t_codes (ix x1) x2)))
set_option maxHeartbeats 4000000 in
set_option maxRecDepth 100000 in
theorem wX8_act_E {p : Program} {l : Launch} {e : Env} {s : State} {m : MethodId} {args : Array Value} {below : List Frame} {meth : Method} {c : Code} {G : GT} {A : Nat → Prop} (C : cxt p s m args meth c cX8_act none 3 "OutStation$Relays" wsX8_act G A) {a_t : Nat} {a_t_codes : Nat} {a_t_selected : Nat} {t_timeout : Int32} {t_selectedLength : Int32} {t_selectedTick : Int32} {out : Int32 × (Nat → Int32)} : ∀ (x1 : Int32) (x2 : Int32) (t_acted : Int32) (t_codes : Nat → Int32) (H : Heap) (locs : List Loc) (ls : Array Slot), fX8_act x1 x2 t_acted t_codes = some out → va_P G.1 vwCl (wdX8_act G a_t a_t_codes a_t_selected t_timeout t_acted t_selectedLength t_selectedTick t_codes) H → va_D A (wdX8_act G a_t a_t_codes a_t_selected t_timeout t_acted t_selectedLength t_selectedTick t_codes) → va_S A s.heap H locs → lv_has ls 3 [(0, .ref a_t), (1, .int x1), (2, .int x2)] → W p l e rmX8_act s m args below meth c H locs 0 0 (MQ below (gQv G A (wdX8_act G a_t a_t_codes a_t_selected t_timeout out.1 t_selectedLength t_selectedTick out.2)) args s 0 0 A) (F0 m 0 ls []) := by
  obtain ⟨hx, hb, hr, hml, hown, hts, hlocks, hA, hK⟩ := id C
  have hB : ∀ w ∈ BG, w.before args s = true := fun w h => hts w (List.mem_cons_of_mem _ h)
  intro x1 x2 t_acted t_codes H locs ls h hP hD hS hl
  unfold fX8_act at h
  refine lv_aload_n hx hb dX8_act_0 rfl (lv_at hl 0 rfl) ?_
  refine va_get (D := G.1) (ci := 8) (v := .ref a_t_codes) (C := RX8) (T := TX8) (N := 6) hx hb hB iX8 hown hK.1 hP 0 rfl rfl 1 (by decide) (hB _ kw271) (fun _ h9 => h9) rfl dX8_act_1 ?_
  refine lv_iload_n hx hb dX8_act_4 rfl (lv_at hl 1 rfl) ?_
  refine lv_iload_n hx hb dX8_act_5 rfl (lv_at hl 2 rfl) ?_
  obtain ⟨hg1, h⟩ := grd_some h
  refine va_iast hx hb hK.1 hP hD hS 1 0 rfl rfl hg1 dX8_act_6 (fun H locs hP hD hS => ?_)
  have hP : va_P G.1 vwCl (wdX8_act G a_t a_t_codes a_t_selected t_timeout t_acted t_selectedLength t_selectedTick (upd t_codes (ix x1) x2)) H := hP
  have hD : va_D A (wdX8_act G a_t a_t_codes a_t_selected t_timeout t_acted t_selectedLength t_selectedTick (upd t_codes (ix x1) x2)) := hD
  refine lv_aload_n hx hb dX8_act_7 rfl (lv_at hl 0 rfl) ?_
  refine lv_dup hx hb dX8_act_8 rfl ?_
  refine va_get (D := G.1) (ci := 8) (v := .int t_acted) (C := RX8) (T := TX8) (N := 6) hx hb hB iX8 hown hK.1 hP 0 rfl rfl 2 (by decide) (hB _ kw272) (fun _ h9 => h9) rfl dX8_act_9 ?_
  refine lv_iconst (v := (1 : Int32)) hx hb dX8_act_12 (by decide) ?_
  refine lv_iadd hx hb dX8_act_13 ?_
  refine va_put (D := G.1) (ci := 8) (v := .int (t_acted + (1 : Int32))) (ty := .int) (C := RX8) (T := TX8) (N := 6) hx hb hB iX8 tyX8 tyX8_ok nmX8 hown hK.1 hP hD hS 0 rfl rfl 2 (by decide) (hB _ kw272) (fun _ h9 => h9) rfl (by decide +kernel) rfl rfl (Nat.le_of_ble_eq_true rfl) dX8_act_14 (fun H locs hP hD hS => ?_)
  have hP : va_P G.1 vwCl (wdX8_act G a_t a_t_codes a_t_selected t_timeout (t_acted + (1 : Int32)) t_selectedLength t_selectedTick (upd t_codes (ix x1) x2)) H := hP
  have hD : va_D A (wdX8_act G a_t a_t_codes a_t_selected t_timeout (t_acted + (1 : Int32)) t_selectedLength t_selectedTick (upd t_codes (ix x1) x2)) := hD
  obtain rfl := Option.some.inj h
  exact W.vret hx hb hr (fun t ht hW => ⟨⟨(), rfl, trivial, by rw [ht]; exact hP, hD⟩, hS.F ht⟩) hS.2.2 dX8_act_17
set_option maxHeartbeats 4000000 in
set_option maxRecDepth 100000 in
theorem mX8_act (l : Launch) (G : GT) (a_t : Nat) (a_t_codes : Nat) (a_t_selected : Nat) (t_timeout : Int32) (t_selectedLength : Int32) (t_selectedTick : Int32) (x1 : Int32) (x2 : Int32) (t_acted : Int32) (t_codes : Nat → Int32) (sz : Nat) (out : Int32 × (Nat → Int32)) (h : fX8_act x1 x2 t_acted t_codes = some out) : Met l yX8_act wsX8_act rmX8_act (gPc G [.ref a_t, .int x1, .int x2] sz (wdX8_act G a_t a_t_codes a_t_selected t_timeout t_acted t_selectedLength t_selectedTick t_codes)) (gQv G (va_A (wdX8_act G a_t a_t_codes a_t_selected t_timeout t_acted t_selectedLength t_selectedTick t_codes) sz) (wdX8_act G a_t a_t_codes a_t_selected t_timeout out.1 t_selectedLength t_selectedTick out.2)) 0 0 (va_A (wdX8_act G a_t a_t_codes a_t_selected t_timeout t_acted t_selectedLength t_selectedTick t_codes) sz) := by
  refine Met.ofW (cc := cX8_act) (maxL := 3) (ret := none) (by decide) rfl ?_
  intro p e s m args below meth c s₁ B hml hv
  obtain ⟨rfl, hsz, hP, hK, hD0⟩ := hv
  have hts := atoms_spec (ws := wsX8_act) B.pre
  have hown : s.vm.findClass "OutStation$Relays" = some m.cls := findClass_of_methodNamed B.named
  subst hsz
  have hD := hD0.self (sz := s.heap.size)
  generalize hAe : va_A (wdX8_act G a_t a_t_codes a_t_selected t_timeout t_acted t_selectedLength t_selectedTick t_codes) s.heap.size = A at hD ⊢
  have hA : ∀ q : Nat, s.heap.size ≤ q → A q := fun q h => by rw [← hAe]; exact Or.inr h
  have hS : va_S A s.heap s.heap [] := va_S.rf
  have hl := lv_entry ([.ref a_t, .int x1, .int x2]) (n := 3) (Nat.le_of_ble_eq_true rfl)
  rw [lg_entry_eq]
  generalize (lg_sl ([.ref a_t, .int x1, .int x2]) ++ List.replicate (3 - (lg_sl ([.ref a_t, .int x1, .int x2])).length) Slot.unset).toArray = ls at hl ⊢
  exact wX8_act_E ⟨B.exec, B.bytes, B.returns, hml, hown, hts, B.notSynchronized, hA, hK⟩ x1 x2 t_acted t_codes _ _ _ h hP hD hS hl
/-! ### OutStation$Relays.forgetSelected ()V -/
abbrev wdX8_forgetSelected (G : GT) (a_t : Nat) (a_t_codes : Nat) (a_t_selected : Nat) (t_timeout : Int32) (t_acted : Int32) (t_selectedLength : Int32) (t_selectedTick : Int32) : va_W := [(a_t, .inr (8, [.int t_timeout, .ref a_t_codes, .int t_acted, .ref a_t_selected, .int t_selectedLength, .int t_selectedTick]))]
abbrev wsX8_forgetSelected : List Cond := .code yX8_forgetSelected cX8_forgetSelected 1 none :: BG
abbrev rmX8_forgetSelected : Room := { frames := 0, cells := 0, slots := 0, locals := 0 }
noncomputable def fX8_forgetSelected (t_selectedLength : Int32) : Option (Int32) := some ((0 : Int32))
set_option maxHeartbeats 4000000 in
set_option maxRecDepth 100000 in
theorem wX8_forgetSelected_E {p : Program} {l : Launch} {e : Env} {s : State} {m : MethodId} {args : Array Value} {below : List Frame} {meth : Method} {c : Code} {G : GT} {A : Nat → Prop} (C : cxt p s m args meth c cX8_forgetSelected none 1 "OutStation$Relays" wsX8_forgetSelected G A) {a_t : Nat} {a_t_codes : Nat} {a_t_selected : Nat} {t_timeout : Int32} {t_acted : Int32} {t_selectedTick : Int32} {out : Int32} : ∀ (t_selectedLength : Int32) (H : Heap) (locs : List Loc) (ls : Array Slot), fX8_forgetSelected t_selectedLength = some out → va_P G.1 vwCl (wdX8_forgetSelected G a_t a_t_codes a_t_selected t_timeout t_acted t_selectedLength t_selectedTick) H → va_D A (wdX8_forgetSelected G a_t a_t_codes a_t_selected t_timeout t_acted t_selectedLength t_selectedTick) → va_S A s.heap H locs → lv_has ls 1 [(0, .ref a_t)] → W p l e rmX8_forgetSelected s m args below meth c H locs 0 0 (MQ below (gQv G A (wdX8_forgetSelected G a_t a_t_codes a_t_selected t_timeout t_acted out t_selectedTick)) args s 0 0 A) (F0 m 0 ls []) := by
  obtain ⟨hx, hb, hr, hml, hown, hts, hlocks, hA, hK⟩ := id C
  have hB : ∀ w ∈ BG, w.before args s = true := fun w h => hts w (List.mem_cons_of_mem _ h)
  intro t_selectedLength H locs ls h hP hD hS hl
  unfold fX8_forgetSelected at h
  refine lv_aload_n hx hb dX8_forgetSelected_0 rfl (lv_at hl 0 rfl) ?_
  refine lv_iconst (v := (0 : Int32)) hx hb dX8_forgetSelected_1 (by decide) ?_
  refine va_put (D := G.1) (ci := 8) (v := .int (0 : Int32)) (ty := .int) (C := RX8) (T := TX8) (N := 6) hx hb hB iX8 tyX8 tyX8_ok nmX8 hown hK.1 hP hD hS 0 rfl rfl 4 (by decide) (hB _ kw274) (fun _ h9 => h9) rfl (by decide +kernel) rfl rfl (Nat.le_of_ble_eq_true rfl) dX8_forgetSelected_2 (fun H locs hP hD hS => ?_)
  have hP : va_P G.1 vwCl (wdX8_forgetSelected G a_t a_t_codes a_t_selected t_timeout t_acted (0 : Int32) t_selectedTick) H := hP
  have hD : va_D A (wdX8_forgetSelected G a_t a_t_codes a_t_selected t_timeout t_acted (0 : Int32) t_selectedTick) := hD
  obtain rfl := Option.some.inj h
  exact W.vret hx hb hr (fun t ht hW => ⟨⟨(), rfl, trivial, by rw [ht]; exact hP, hD⟩, hS.F ht⟩) hS.2.2 dX8_forgetSelected_5
set_option maxHeartbeats 4000000 in
set_option maxRecDepth 100000 in
theorem mX8_forgetSelected (l : Launch) (G : GT) (a_t : Nat) (a_t_codes : Nat) (a_t_selected : Nat) (t_timeout : Int32) (t_acted : Int32) (t_selectedTick : Int32) (t_selectedLength : Int32) (sz : Nat) (out : Int32) (h : fX8_forgetSelected t_selectedLength = some out) : Met l yX8_forgetSelected wsX8_forgetSelected rmX8_forgetSelected (gPc G [.ref a_t] sz (wdX8_forgetSelected G a_t a_t_codes a_t_selected t_timeout t_acted t_selectedLength t_selectedTick)) (gQv G (va_A (wdX8_forgetSelected G a_t a_t_codes a_t_selected t_timeout t_acted t_selectedLength t_selectedTick) sz) (wdX8_forgetSelected G a_t a_t_codes a_t_selected t_timeout t_acted out t_selectedTick)) 0 0 (va_A (wdX8_forgetSelected G a_t a_t_codes a_t_selected t_timeout t_acted t_selectedLength t_selectedTick) sz) := by
  refine Met.ofW (cc := cX8_forgetSelected) (maxL := 1) (ret := none) (by decide) rfl ?_
  intro p e s m args below meth c s₁ B hml hv
  obtain ⟨rfl, hsz, hP, hK, hD0⟩ := hv
  have hts := atoms_spec (ws := wsX8_forgetSelected) B.pre
  have hown : s.vm.findClass "OutStation$Relays" = some m.cls := findClass_of_methodNamed B.named
  subst hsz
  have hD := hD0.self (sz := s.heap.size)
  generalize hAe : va_A (wdX8_forgetSelected G a_t a_t_codes a_t_selected t_timeout t_acted t_selectedLength t_selectedTick) s.heap.size = A at hD ⊢
  have hA : ∀ q : Nat, s.heap.size ≤ q → A q := fun q h => by rw [← hAe]; exact Or.inr h
  have hS : va_S A s.heap s.heap [] := va_S.rf
  have hl := lv_entry ([.ref a_t]) (n := 1) (Nat.le_of_ble_eq_true rfl)
  rw [lg_entry_eq]
  generalize (lg_sl ([.ref a_t]) ++ List.replicate (1 - (lg_sl ([.ref a_t])).length) Slot.unset).toArray = ls at hl ⊢
  exact wX8_forgetSelected_E ⟨B.exec, B.bytes, B.returns, hml, hown, hts, B.notSynchronized, hA, hK⟩ t_selectedLength _ _ _ h hP hD hS hl
/-! ### OutStation$Relays.keepSelected ([III)V -/
abbrev wdX8_keepSelected (G : GT) (a_t : Nat) (a_t_selected : Nat) (a_p1 : Nat) (a_t_codes : Nat) (N_p1 : Nat) (t_timeout : Int32) (t_acted : Int32) (t_selectedLength : Int32) (t_selectedTick : Int32) (t_selected : Nat → Int32) (p1 : Nat → Int32) : va_W := [(a_t, .inr (8, [.int t_timeout, .ref a_t_codes, .int t_acted, .ref a_t_selected, .int t_selectedLength, .int t_selectedTick])), (a_t_selected, .inl (G.2.1, 102, .inl t_selected)), (a_p1, .inl (G.2.1, N_p1, .inl p1))]
abbrev wsX8_keepSelected : List Cond := .code yX8_keepSelected cX8_keepSelected 4 none :: BG
abbrev rmX8_keepSelected : Room := { frames := 1, cells := 0, slots := 0, locals := 30 }
noncomputable def fX8_keepSelected (N_p1 : Nat) (p1 : Nat → Int32) (x2 : Int32) (x3 : Int32) (t_selectedLength : Int32) (t_selectedTick : Int32) (t_selected : Nat → Int32) : Option (Int32 × Int32 × (Nat → Int32)) := grd (¬ (0 : Int32) < 0 ∧ ¬ (0 : Int32) < 0 ∧ ¬ x2 < 0 ∧ ix (0 : Int32) + ix x2 ≤ N_p1 ∧ ix (0 : Int32) + ix x2 ≤ 102) (some (x2, x3, (va_cpy p1 t_selected (ix (0 : Int32)) (ix (0 : Int32)) (ix x2))))
set_option maxHeartbeats 4000000 in
set_option maxRecDepth 100000 in
theorem wX8_keepSelected_E {p : Program} {l : Launch} {e : Env} {s : State} {m : MethodId} {args : Array Value} {below : List Frame} {meth : Method} {c : Code} {G : GT} {A : Nat → Prop} (C : cxt p s m args meth c cX8_keepSelected none 4 "OutStation$Relays" wsX8_keepSelected G A) {a_t : Nat} {a_t_selected : Nat} {a_p1 : Nat} {a_t_codes : Nat} {N_p1 : Nat} {t_timeout : Int32} {t_acted : Int32} {p1 : Nat → Int32} {out : Int32 × Int32 × (Nat → Int32)} : ∀ (x2 : Int32) (x3 : Int32) (t_selectedLength : Int32) (t_selectedTick : Int32) (t_selected : Nat → Int32) (H : Heap) (locs : List Loc) (ls : Array Slot), fX8_keepSelected N_p1 p1 x2 x3 t_selectedLength t_selectedTick t_selected = some out → va_P G.1 vwCl (wdX8_keepSelected G a_t a_t_selected a_p1 a_t_codes N_p1 t_timeout t_acted t_selectedLength t_selectedTick t_selected p1) H → va_D A (wdX8_keepSelected G a_t a_t_selected a_p1 a_t_codes N_p1 t_timeout t_acted t_selectedLength t_selectedTick t_selected p1) → va_S A s.heap H locs → lv_has ls 4 [(0, .ref a_t), (1, .ref a_p1), (2, .int x2), (3, .int x3)] → W p l e rmX8_keepSelected s m args below meth c H locs 0 0 (MQ below (gQv G A (wdX8_keepSelected G a_t a_t_selected a_p1 a_t_codes N_p1 t_timeout t_acted out.1 out.2.1 out.2.2 p1)) args s 0 0 A) (F0 m 0 ls []) := by
  obtain ⟨hx, hb, hr, hml, hown, hts, hlocks, hA, hK⟩ := id C
  have hB : ∀ w ∈ BG, w.before args s = true := fun w h => hts w (List.mem_cons_of_mem _ h)
  intro x2 x3 t_selectedLength t_selectedTick t_selected H locs ls h hP hD hS hl
  unfold fX8_keepSelected at h
  refine lv_aload_n hx hb dX8_keepSelected_0 rfl (lv_at hl 1 rfl) ?_
  refine lv_iconst (v := (0 : Int32)) hx hb dX8_keepSelected_1 (by decide) ?_
  refine lv_aload_n hx hb dX8_keepSelected_2 rfl (lv_at hl 0 rfl) ?_
  refine va_get (D := G.1) (ci := 8) (v := .ref a_t_selected) (C := RX8) (T := TX8) (N := 6) hx hb hB iX8 hown hK.1 hP 0 rfl rfl 3 (by decide) (hB _ kw273) (fun _ h9 => h9) rfl dX8_keepSelected_3 ?_
  refine lv_iconst (v := (0 : Int32)) hx hb dX8_keepSelected_6 (by decide) ?_
  refine lv_iload_n hx hb dX8_keepSelected_7 rfl (lv_at hl 2 rfl) ?_
  obtain ⟨hg1, h⟩ := grd_some h
  refine va_copyi hx hb (hml.trans hl.1.symm) hown (hB _ kw706) (hB _ kw457) (hB _ kw456) (hB _ kw62) hK.1 hP hD hS 2 1 0 0 rfl rfl rfl rfl rfl hg1.1 hg1.2.1 hg1.2.2.1 hg1.2.2.2.1 hg1.2.2.2.2 (fun _ _ => rfl) (Nat.le_of_ble_eq_true rfl) (Nat.le_of_ble_eq_true rfl) dX8_keepSelected_8 (fun H locs hP hD hS => ?_)
  have hP : va_P G.1 vwCl (wdX8_keepSelected G a_t a_t_selected a_p1 a_t_codes N_p1 t_timeout t_acted t_selectedLength t_selectedTick (va_cpy p1 t_selected (ix (0 : Int32)) (ix (0 : Int32)) (ix x2)) p1) H := hP
  have hD : va_D A (wdX8_keepSelected G a_t a_t_selected a_p1 a_t_codes N_p1 t_timeout t_acted t_selectedLength t_selectedTick (va_cpy p1 t_selected (ix (0 : Int32)) (ix (0 : Int32)) (ix x2)) p1) := hD
  refine lv_aload_n hx hb dX8_keepSelected_11 rfl (lv_at hl 0 rfl) ?_
  refine lv_iload_n hx hb dX8_keepSelected_12 rfl (lv_at hl 2 rfl) ?_
  refine va_put (D := G.1) (ci := 8) (v := .int x2) (ty := .int) (C := RX8) (T := TX8) (N := 6) hx hb hB iX8 tyX8 tyX8_ok nmX8 hown hK.1 hP hD hS 0 rfl rfl 4 (by decide) (hB _ kw274) (fun _ h9 => h9) rfl (by decide +kernel) rfl rfl (Nat.le_of_ble_eq_true rfl) dX8_keepSelected_13 (fun H locs hP hD hS => ?_)
  have hP : va_P G.1 vwCl (wdX8_keepSelected G a_t a_t_selected a_p1 a_t_codes N_p1 t_timeout t_acted x2 t_selectedTick (va_cpy p1 t_selected (ix (0 : Int32)) (ix (0 : Int32)) (ix x2)) p1) H := hP
  have hD : va_D A (wdX8_keepSelected G a_t a_t_selected a_p1 a_t_codes N_p1 t_timeout t_acted x2 t_selectedTick (va_cpy p1 t_selected (ix (0 : Int32)) (ix (0 : Int32)) (ix x2)) p1) := hD
  refine lv_aload_n hx hb dX8_keepSelected_16 rfl (lv_at hl 0 rfl) ?_
  refine lv_iload_n hx hb dX8_keepSelected_17 rfl (lv_at hl 3 rfl) ?_
  refine va_put (D := G.1) (ci := 8) (v := .int x3) (ty := .int) (C := RX8) (T := TX8) (N := 6) hx hb hB iX8 tyX8 tyX8_ok nmX8 hown hK.1 hP hD hS 0 rfl rfl 5 (by decide) (hB _ kw275) (fun _ h9 => h9) rfl (by decide +kernel) rfl rfl (Nat.le_of_ble_eq_true rfl) dX8_keepSelected_18 (fun H locs hP hD hS => ?_)
  have hP : va_P G.1 vwCl (wdX8_keepSelected G a_t a_t_selected a_p1 a_t_codes N_p1 t_timeout t_acted x2 x3 (va_cpy p1 t_selected (ix (0 : Int32)) (ix (0 : Int32)) (ix x2)) p1) H := hP
  have hD : va_D A (wdX8_keepSelected G a_t a_t_selected a_p1 a_t_codes N_p1 t_timeout t_acted x2 x3 (va_cpy p1 t_selected (ix (0 : Int32)) (ix (0 : Int32)) (ix x2)) p1) := hD
  obtain rfl := Option.some.inj h
  exact W.vret hx hb hr (fun t ht hW => ⟨⟨(), rfl, trivial, by rw [ht]; exact hP, hD⟩, hS.F ht⟩) hS.2.2 dX8_keepSelected_21
set_option maxHeartbeats 4000000 in
set_option maxRecDepth 100000 in
theorem mX8_keepSelected (l : Launch) (G : GT) (a_t : Nat) (a_t_selected : Nat) (a_p1 : Nat) (a_t_codes : Nat) (N_p1 : Nat) (t_timeout : Int32) (t_acted : Int32) (p1 : Nat → Int32) (x2 : Int32) (x3 : Int32) (t_selectedLength : Int32) (t_selectedTick : Int32) (t_selected : Nat → Int32) (sz : Nat) (out : Int32 × Int32 × (Nat → Int32)) (h : fX8_keepSelected N_p1 p1 x2 x3 t_selectedLength t_selectedTick t_selected = some out) : Met l yX8_keepSelected wsX8_keepSelected rmX8_keepSelected (gPc G [.ref a_t, .ref a_p1, .int x2, .int x3] sz (wdX8_keepSelected G a_t a_t_selected a_p1 a_t_codes N_p1 t_timeout t_acted t_selectedLength t_selectedTick t_selected p1)) (gQv G (va_A (wdX8_keepSelected G a_t a_t_selected a_p1 a_t_codes N_p1 t_timeout t_acted t_selectedLength t_selectedTick t_selected p1) sz) (wdX8_keepSelected G a_t a_t_selected a_p1 a_t_codes N_p1 t_timeout t_acted out.1 out.2.1 out.2.2 p1)) 0 0 (va_A (wdX8_keepSelected G a_t a_t_selected a_p1 a_t_codes N_p1 t_timeout t_acted t_selectedLength t_selectedTick t_selected p1) sz) := by
  refine Met.ofW (cc := cX8_keepSelected) (maxL := 4) (ret := none) (by decide) rfl ?_
  intro p e s m args below meth c s₁ B hml hv
  obtain ⟨rfl, hsz, hP, hK, hD0⟩ := hv
  have hts := atoms_spec (ws := wsX8_keepSelected) B.pre
  have hown : s.vm.findClass "OutStation$Relays" = some m.cls := findClass_of_methodNamed B.named
  subst hsz
  have hD := hD0.self (sz := s.heap.size)
  generalize hAe : va_A (wdX8_keepSelected G a_t a_t_selected a_p1 a_t_codes N_p1 t_timeout t_acted t_selectedLength t_selectedTick t_selected p1) s.heap.size = A at hD ⊢
  have hA : ∀ q : Nat, s.heap.size ≤ q → A q := fun q h => by rw [← hAe]; exact Or.inr h
  have hS : va_S A s.heap s.heap [] := va_S.rf
  have hl := lv_entry ([.ref a_t, .ref a_p1, .int x2, .int x3]) (n := 4) (Nat.le_of_ble_eq_true rfl)
  rw [lg_entry_eq]
  generalize (lg_sl ([.ref a_t, .ref a_p1, .int x2, .int x3]) ++ List.replicate (4 - (lg_sl ([.ref a_t, .ref a_p1, .int x2, .int x3])).length) Slot.unset).toArray = ls at hl ⊢
  exact wX8_keepSelected_E ⟨B.exec, B.bytes, B.returns, hml, hown, hts, B.notSynchronized, hA, hK⟩ x2 x3 t_selectedLength t_selectedTick t_selected _ _ _ h hP hD hS hl
/-! ### OutStation$Relays.standingOf ([III)I -/
abbrev wdX8_standingOf (G : GT) (a_t : Nat) (a_t_selected : Nat) (a_p1 : Nat) (a_t_codes : Nat) (N_p1 : Nat) (t_timeout : Int32) (t_acted : Int32) (t_selectedLength : Int32) (t_selectedTick : Int32) (t_selected : Nat → Int32) (p1 : Nat → Int32) : va_W := [(a_t, .inr (8, [.int t_timeout, .ref a_t_codes, .int t_acted, .ref a_t_selected, .int t_selectedLength, .int t_selectedTick])), (a_t_selected, .inl (G.2.1, 102, .inl t_selected)), (a_p1, .inl (G.2.1, N_p1, .inl p1))]
abbrev wsX8_standingOf : List Cond := .code yX8_standingOf cX8_standingOf 6 (some .int) :: BG
abbrev rmX8_standingOf : Room := { frames := 0, cells := 0, slots := 0, locals := 0 }
noncomputable def fX8_standingOf_L40 (N_p1 : Nat) (t_timeout : Int32) (t_selectedLength : Int32) (t_selectedTick : Int32) (t_selected : Nat → Int32) (p1 : Nat → Int32) : Option (Int32) := some ((2 : Int32))
set_option maxHeartbeats 4000000 in
set_option maxRecDepth 100000 in
theorem wX8_standingOf_L40 {p : Program} {l : Launch} {e : Env} {s : State} {m : MethodId} {args : Array Value} {below : List Frame} {meth : Method} {c : Code} {G : GT} {A : Nat → Prop} (C : cxt p s m args meth c cX8_standingOf (some .int) 6 "OutStation$Relays" wsX8_standingOf G A) {a_t : Nat} {a_t_selected : Nat} {a_p1 : Nat} {a_t_codes : Nat} {N_p1 : Nat} {t_timeout : Int32} {t_acted : Int32} {t_selectedLength : Int32} {t_selectedTick : Int32} {t_selected : Nat → Int32} {p1 : Nat → Int32} {out : Int32} : ∀ (H : Heap) (locs : List Loc) (ls : Array Slot), fX8_standingOf_L40 N_p1 t_timeout t_selectedLength t_selectedTick t_selected p1 = some out → va_P G.1 vwCl (wdX8_standingOf G a_t a_t_selected a_p1 a_t_codes N_p1 t_timeout t_acted t_selectedLength t_selectedTick t_selected p1) H → va_D A (wdX8_standingOf G a_t a_t_selected a_p1 a_t_codes N_p1 t_timeout t_acted t_selectedLength t_selectedTick t_selected p1) → va_S A s.heap H locs → lv_has ls 6 [] → W p l e rmX8_standingOf s m args below meth c H locs 0 0 (MQ below (gQi G A out (wdX8_standingOf G a_t a_t_selected a_p1 a_t_codes N_p1 t_timeout t_acted t_selectedLength t_selectedTick t_selected p1)) args s 0 0 A) (F0 m 40 ls []) := by
  obtain ⟨hx, hb, hr, hml, hown, hts, hlocks, hA, hK⟩ := id C
  have hB : ∀ w ∈ BG, w.before args s = true := fun w h => hts w (List.mem_cons_of_mem _ h)
  intro H locs ls h hP hD hS hl
  unfold fX8_standingOf_L40 at h
  refine lv_iconst (v := (2 : Int32)) hx hb dX8_standingOf_40 (by decide) ?_
  obtain rfl := Option.some.inj h
  exact W.iret (v := (2 : Int32)) hx hb hr (fun t ht hW => ⟨⟨_, (), rfl, rfl, by rw [ht]; exact hP, hD⟩, hS.F ht⟩) hS.2.2 dX8_standingOf_41
noncomputable def fX8_standingOf_L91 (N_p1 : Nat) (t_timeout : Int32) (t_selectedLength : Int32) (t_selectedTick : Int32) (t_selected : Nat → Int32) (p1 : Nat → Int32) (s0 : Int32) : Option (Int32) := some (s0)
set_option maxHeartbeats 4000000 in
set_option maxRecDepth 100000 in
theorem wX8_standingOf_L91 {p : Program} {l : Launch} {e : Env} {s : State} {m : MethodId} {args : Array Value} {below : List Frame} {meth : Method} {c : Code} {G : GT} {A : Nat → Prop} (C : cxt p s m args meth c cX8_standingOf (some .int) 6 "OutStation$Relays" wsX8_standingOf G A) {a_t : Nat} {a_t_selected : Nat} {a_p1 : Nat} {a_t_codes : Nat} {N_p1 : Nat} {t_timeout : Int32} {t_acted : Int32} {t_selectedLength : Int32} {t_selectedTick : Int32} {t_selected : Nat → Int32} {p1 : Nat → Int32} {out : Int32} : ∀ (s0 : Int32) (H : Heap) (locs : List Loc) (ls : Array Slot), fX8_standingOf_L91 N_p1 t_timeout t_selectedLength t_selectedTick t_selected p1 s0 = some out → va_P G.1 vwCl (wdX8_standingOf G a_t a_t_selected a_p1 a_t_codes N_p1 t_timeout t_acted t_selectedLength t_selectedTick t_selected p1) H → va_D A (wdX8_standingOf G a_t a_t_selected a_p1 a_t_codes N_p1 t_timeout t_acted t_selectedLength t_selectedTick t_selected p1) → va_S A s.heap H locs → lv_has ls 6 [] → W p l e rmX8_standingOf s m args below meth c H locs 0 0 (MQ below (gQi G A out (wdX8_standingOf G a_t a_t_selected a_p1 a_t_codes N_p1 t_timeout t_acted t_selectedLength t_selectedTick t_selected p1)) args s 0 0 A) (F0 m 91 ls [.int s0]) := by
  obtain ⟨hx, hb, hr, hml, hown, hts, hlocks, hA, hK⟩ := id C
  have hB : ∀ w ∈ BG, w.before args s = true := fun w h => hts w (List.mem_cons_of_mem _ h)
  intro s0 H locs ls h hP hD hS hl
  unfold fX8_standingOf_L91 at h
  obtain rfl := Option.some.inj h
  exact W.iret (v := s0) hx hb hr (fun t ht hW => ⟨⟨_, (), rfl, rfl, by rw [ht]; exact hP, hD⟩, hS.F ht⟩) hS.2.2 dX8_standingOf_91
noncomputable def fX8_standingOf_L45 (N_p1 : Nat) (t_timeout : Int32) (t_selectedLength : Int32) (t_selectedTick : Int32) (t_selected : Nat → Int32) (p1 : Nat → Int32) (n : Nat) : Int32 → Int32 → Int32 → Option (Int32) := Nat.rec (motive := fun _ => Int32 → Int32 → Int32 → Option (Int32)) (fun _ _ _ => none) (fun _ k_L45 x2 x3 x5 => brc (x2 ≤ x5) (brc ((x3 - t_selectedTick) ≤ t_timeout) (fX8_standingOf_L91 N_p1 t_timeout t_selectedLength t_selectedTick t_selected p1 (0 : Int32)) (fX8_standingOf_L91 N_p1 t_timeout t_selectedLength t_selectedTick t_selected p1 (1 : Int32))) (grd (vp_in x5 N_p1) (grd (vp_in x5 102) (brc ((p1 (ix x5)) = (t_selected (ix x5))) (k_L45 x2 x3 (x5 + (1 : Int32))) (some ((2 : Int32))))))) n
set_option maxHeartbeats 4000000 in
set_option maxRecDepth 100000 in
theorem wX8_standingOf_L45 {p : Program} {l : Launch} {e : Env} {s : State} {m : MethodId} {args : Array Value} {below : List Frame} {meth : Method} {c : Code} {G : GT} {A : Nat → Prop} (C : cxt p s m args meth c cX8_standingOf (some .int) 6 "OutStation$Relays" wsX8_standingOf G A) {a_t : Nat} {a_t_selected : Nat} {a_p1 : Nat} {a_t_codes : Nat} {N_p1 : Nat} {t_timeout : Int32} {t_acted : Int32} {t_selectedLength : Int32} {t_selectedTick : Int32} {t_selected : Nat → Int32} {p1 : Nat → Int32} {out : Int32} : ∀ (n : Nat) (x2 : Int32) (x3 : Int32) (x5 : Int32) (H : Heap) (locs : List Loc) (ls : Array Slot), fX8_standingOf_L45 N_p1 t_timeout t_selectedLength t_selectedTick t_selected p1 n x2 x3 x5 = some out → va_P G.1 vwCl (wdX8_standingOf G a_t a_t_selected a_p1 a_t_codes N_p1 t_timeout t_acted t_selectedLength t_selectedTick t_selected p1) H → va_D A (wdX8_standingOf G a_t a_t_selected a_p1 a_t_codes N_p1 t_timeout t_acted t_selectedLength t_selectedTick t_selected p1) → va_S A s.heap H locs → lv_has ls 6 [(0, .ref a_t), (1, .ref a_p1), (2, .int x2), (3, .int x3), (5, .int x5)] → W p l e rmX8_standingOf s m args below meth c H locs 0 0 (MQ below (gQi G A out (wdX8_standingOf G a_t a_t_selected a_p1 a_t_codes N_p1 t_timeout t_acted t_selectedLength t_selectedTick t_selected p1)) args s 0 0 A) (F0 m 45 ls []) := by
  obtain ⟨hx, hb, hr, hml, hown, hts, hlocks, hA, hK⟩ := id C
  have hB : ∀ w ∈ BG, w.before args s = true := fun w h => hts w (List.mem_cons_of_mem _ h)
  intro n
  induction n with
  | zero =>
    intro x2 x3 x5 H locs ls h hP hD hS hl
    cases h
  | succ n ih =>
    intro x2 x3 x5 H locs ls h hP hD hS hl
    replace h : brc (x2 ≤ x5) (brc ((x3 - t_selectedTick) ≤ t_timeout) (fX8_standingOf_L91 N_p1 t_timeout t_selectedLength t_selectedTick t_selected p1 (0 : Int32)) (fX8_standingOf_L91 N_p1 t_timeout t_selectedLength t_selectedTick t_selected p1 (1 : Int32))) (grd (vp_in x5 N_p1) (grd (vp_in x5 102) (brc ((p1 (ix x5)) = (t_selected (ix x5))) ((fX8_standingOf_L45 N_p1 t_timeout t_selectedLength t_selectedTick t_selected p1 n) x2 x3 (x5 + (1 : Int32))) (some ((2 : Int32)))))) = some out := h
    refine lv_iload hx hb dX8_standingOf_45 (lv_at hl 4 rfl) ?_
    refine lv_iload_n hx hb dX8_standingOf_47 rfl (lv_at hl 2 rfl) ?_
    refine lv_icmp_ge (tgt := 73) hx hb dX8_standingOf_48 (by decide) (fun hc48 => ?_) (fun hc48 => ?_)
    · have h := brc_tt h hc48
      refine lv_iload_n hx hb dX8_standingOf_73 rfl (lv_at hl 3 rfl) ?_
      refine lv_aload_n hx hb dX8_standingOf_74 rfl (lv_at hl 0 rfl) ?_
      refine va_get (D := G.1) (ci := 8) (v := .int t_selectedTick) (C := RX8) (T := TX8) (N := 6) hx hb hB iX8 hown hK.1 hP 0 rfl rfl 5 (by decide) (hB _ kw275) (fun _ h9 => h9) rfl dX8_standingOf_75 ?_
      refine lv_isub hx hb dX8_standingOf_78 ?_
      refine lv_aload_n hx hb dX8_standingOf_79 rfl (lv_at hl 0 rfl) ?_
      refine va_get (D := G.1) (ci := 8) (v := .int t_timeout) (C := RX8) (T := TX8) (N := 6) hx hb hB iX8 hown hK.1 hP 0 rfl rfl 0 (by decide) (hB _ kw270) (fun _ h9 => h9) rfl dX8_standingOf_80 ?_
      refine lv_icmp_le (tgt := 90) hx hb dX8_standingOf_83 (by decide) (fun hc83 => ?_) (fun hc83 => ?_)
      · have h := brc_tt h hc83
        refine lv_iconst (v := (0 : Int32)) hx hb dX8_standingOf_90 (by decide) ?_
        exact wX8_standingOf_L91 C (0 : Int32) _ _ _ h hP hD hS (lv_sub hl [] rfl)
      · have h := brc_ff h hc83
        refine lv_iconst (v := (1 : Int32)) hx hb dX8_standingOf_86 (by decide) ?_
        refine lv_goto (tgt := 91) hx hb dX8_standingOf_87 (by decide) ?_
        exact wX8_standingOf_L91 C (1 : Int32) _ _ _ h hP hD hS (lv_sub hl [] rfl)
    · have h := brc_ff h hc48
      refine lv_aload_n hx hb dX8_standingOf_51 rfl (lv_at hl 1 rfl) ?_
      refine lv_iload hx hb dX8_standingOf_52 (lv_at hl 4 rfl) ?_
      obtain ⟨hg1, h⟩ := grd_some h
      refine va_iald hx hb hK.1 hP 2 0 rfl rfl hg1 dX8_standingOf_54 ?_
      refine lv_aload_n hx hb dX8_standingOf_55 rfl (lv_at hl 0 rfl) ?_
      refine va_get (D := G.1) (ci := 8) (v := .ref a_t_selected) (C := RX8) (T := TX8) (N := 6) hx hb hB iX8 hown hK.1 hP 0 rfl rfl 3 (by decide) (hB _ kw273) (fun _ h9 => h9) rfl dX8_standingOf_56 ?_
      refine lv_iload hx hb dX8_standingOf_59 (lv_at hl 4 rfl) ?_
      obtain ⟨hg2, h⟩ := grd_some h
      refine va_iald hx hb hK.1 hP 1 0 rfl rfl hg2 dX8_standingOf_61 ?_
      refine lv_icmp_eq (tgt := 67) hx hb dX8_standingOf_62 (by decide) (fun hc62 => ?_) (fun hc62 => ?_)
      · have h := brc_tt h hc62
        refine lv_iinc (v := (x5 + (1 : Int32))) (lv' := [(5, .int (x5 + (1 : Int32))), (0, .ref a_t), (1, .ref a_p1), (2, .int x2), (3, .int x3)]) hx hb dX8_standingOf_67 hl (k := 4) rfl rfl (by decide) rfl (fun ls hl => ?_)
        refine lv_goto (tgt := 45) hx hb dX8_standingOf_70 (by decide) ?_
        exact ih x2 x3 (x5 + (1 : Int32)) _ _ _ h hP hD hS (lv_sub hl [1, 2, 3, 4, 0] rfl)
      · have h := brc_ff h hc62
        refine lv_iconst (v := (2 : Int32)) hx hb dX8_standingOf_65 (by decide) ?_
        obtain rfl := Option.some.inj h
        exact W.iret (v := (2 : Int32)) hx hb hr (fun t ht hW => ⟨⟨_, (), rfl, rfl, by rw [ht]; exact hP, hD⟩, hS.F ht⟩) hS.2.2 dX8_standingOf_66
noncomputable def fX8_standingOf_L25 (N_p1 : Nat) (t_timeout : Int32) (t_selectedLength : Int32) (t_selectedTick : Int32) (t_selected : Nat → Int32) (p1 : Nat → Int32) (x2 : Int32) (x3 : Int32) (s0 : Int32) : Option (Int32) := brc (t_selectedLength = x2) (brc (s0 = 0) (fX8_standingOf_L40 N_p1 t_timeout t_selectedLength t_selectedTick t_selected p1) (fX8_standingOf_L45 N_p1 t_timeout t_selectedLength t_selectedTick t_selected p1 FU x2 x3 (2 : Int32))) (fX8_standingOf_L40 N_p1 t_timeout t_selectedLength t_selectedTick t_selected p1)
set_option maxHeartbeats 4000000 in
set_option maxRecDepth 100000 in
theorem wX8_standingOf_L25 {p : Program} {l : Launch} {e : Env} {s : State} {m : MethodId} {args : Array Value} {below : List Frame} {meth : Method} {c : Code} {G : GT} {A : Nat → Prop} (C : cxt p s m args meth c cX8_standingOf (some .int) 6 "OutStation$Relays" wsX8_standingOf G A) {a_t : Nat} {a_t_selected : Nat} {a_p1 : Nat} {a_t_codes : Nat} {N_p1 : Nat} {t_timeout : Int32} {t_acted : Int32} {t_selectedLength : Int32} {t_selectedTick : Int32} {t_selected : Nat → Int32} {p1 : Nat → Int32} {out : Int32} : ∀ (x2 : Int32) (x3 : Int32) (s0 : Int32) (H : Heap) (locs : List Loc) (ls : Array Slot), fX8_standingOf_L25 N_p1 t_timeout t_selectedLength t_selectedTick t_selected p1 x2 x3 s0 = some out → va_P G.1 vwCl (wdX8_standingOf G a_t a_t_selected a_p1 a_t_codes N_p1 t_timeout t_acted t_selectedLength t_selectedTick t_selected p1) H → va_D A (wdX8_standingOf G a_t a_t_selected a_p1 a_t_codes N_p1 t_timeout t_acted t_selectedLength t_selectedTick t_selected p1) → va_S A s.heap H locs → lv_has ls 6 [(0, .ref a_t), (1, .ref a_p1), (2, .int x2), (3, .int x3)] → W p l e rmX8_standingOf s m args below meth c H locs 0 0 (MQ below (gQi G A out (wdX8_standingOf G a_t a_t_selected a_p1 a_t_codes N_p1 t_timeout t_acted t_selectedLength t_selectedTick t_selected p1)) args s 0 0 A) (F0 m 25 ls [.int s0]) := by
  obtain ⟨hx, hb, hr, hml, hown, hts, hlocks, hA, hK⟩ := id C
  have hB : ∀ w ∈ BG, w.before args s = true := fun w h => hts w (List.mem_cons_of_mem _ h)
  intro x2 x3 s0 H locs ls h hP hD hS hl
  unfold fX8_standingOf_L25 at h
  refine lv_istore (lv' := [(4, .int s0), (0, .ref a_t), (1, .ref a_p1), (2, .int x2), (3, .int x3)]) hx hb dX8_standingOf_25 hl (by decide) rfl (fun ls hl => ?_)
  refine lv_aload_n hx hb dX8_standingOf_27 rfl (lv_at hl 1 rfl) ?_
  refine va_get (D := G.1) (ci := 8) (v := .int t_selectedLength) (C := RX8) (T := TX8) (N := 6) hx hb hB iX8 hown hK.1 hP 0 rfl rfl 4 (by decide) (hB _ kw274) (fun _ h9 => h9) rfl dX8_standingOf_28 ?_
  refine lv_iload_n hx hb dX8_standingOf_31 rfl (lv_at hl 3 rfl) ?_
  refine lv_icmp_ne (tgt := 40) hx hb dX8_standingOf_32 (by decide) (fun hc32 => ?_) (fun hc32 => ?_)
  · have h := brc_ff h hc32
    exact wX8_standingOf_L40 C _ _ _ h hP hD hS (lv_sub hl [] rfl)
  · have h := brc_tt h hc32
    refine lv_iload hx hb dX8_standingOf_35 (lv_at hl 0 rfl) ?_
    refine lv_if_ne (tgt := 42) hx hb dX8_standingOf_37 (by decide) (fun hc37 => ?_) (fun hc37 => ?_)
    · have h := brc_ff h hc37
      refine lv_iconst (v := (2 : Int32)) hx hb dX8_standingOf_42 (by decide) ?_
      refine lv_istore (lv' := [(5, .int (2 : Int32)), (4, .int s0), (0, .ref a_t), (1, .ref a_p1), (2, .int x2), (3, .int x3)]) hx hb dX8_standingOf_43 hl (by decide) rfl (fun ls hl => ?_)
      exact wX8_standingOf_L45 C FU x2 x3 (2 : Int32) _ _ _ h hP hD hS (lv_sub hl [2, 3, 4, 5, 0] rfl)
    · have h := brc_tt h hc37
      exact wX8_standingOf_L40 C _ _ _ h hP hD hS (lv_sub hl [] rfl)
noncomputable def fX8_standingOf (N_p1 : Nat) (t_timeout : Int32) (t_selectedLength : Int32) (t_selectedTick : Int32) (t_selected : Nat → Int32) (p1 : Nat → Int32) (x2 : Int32) (x3 : Int32) : Option (Int32) := grd (vp_in (0 : Int32) N_p1) (brc (((p1 (ix (0 : Int32))) &&& (15 : Int32)) = (((t_selected (ix (0 : Int32))) + (1 : Int32)) &&& (15 : Int32))) (fX8_standingOf_L25 N_p1 t_timeout t_selectedLength t_selectedTick t_selected p1 x2 x3 (1 : Int32)) (fX8_standingOf_L25 N_p1 t_timeout t_selectedLength t_selectedTick t_selected p1 x2 x3 (0 : Int32)))
set_option maxHeartbeats 4000000 in
set_option maxRecDepth 100000 in
theorem wX8_standingOf_E {p : Program} {l : Launch} {e : Env} {s : State} {m : MethodId} {args : Array Value} {below : List Frame} {meth : Method} {c : Code} {G : GT} {A : Nat → Prop} (C : cxt p s m args meth c cX8_standingOf (some .int) 6 "OutStation$Relays" wsX8_standingOf G A) {a_t : Nat} {a_t_selected : Nat} {a_p1 : Nat} {a_t_codes : Nat} {N_p1 : Nat} {t_timeout : Int32} {t_acted : Int32} {t_selectedLength : Int32} {t_selectedTick : Int32} {t_selected : Nat → Int32} {p1 : Nat → Int32} {out : Int32} : ∀ (x2 : Int32) (x3 : Int32) (H : Heap) (locs : List Loc) (ls : Array Slot), fX8_standingOf N_p1 t_timeout t_selectedLength t_selectedTick t_selected p1 x2 x3 = some out → va_P G.1 vwCl (wdX8_standingOf G a_t a_t_selected a_p1 a_t_codes N_p1 t_timeout t_acted t_selectedLength t_selectedTick t_selected p1) H → va_D A (wdX8_standingOf G a_t a_t_selected a_p1 a_t_codes N_p1 t_timeout t_acted t_selectedLength t_selectedTick t_selected p1) → va_S A s.heap H locs → lv_has ls 6 [(0, .ref a_t), (1, .ref a_p1), (2, .int x2), (3, .int x3)] → W p l e rmX8_standingOf s m args below meth c H locs 0 0 (MQ below (gQi G A out (wdX8_standingOf G a_t a_t_selected a_p1 a_t_codes N_p1 t_timeout t_acted t_selectedLength t_selectedTick t_selected p1)) args s 0 0 A) (F0 m 0 ls []) := by
  obtain ⟨hx, hb, hr, hml, hown, hts, hlocks, hA, hK⟩ := id C
  have hB : ∀ w ∈ BG, w.before args s = true := fun w h => hts w (List.mem_cons_of_mem _ h)
  intro x2 x3 H locs ls h hP hD hS hl
  unfold fX8_standingOf at h
  refine lv_aload_n hx hb dX8_standingOf_0 rfl (lv_at hl 1 rfl) ?_
  refine lv_iconst (v := (0 : Int32)) hx hb dX8_standingOf_1 (by decide) ?_
  obtain ⟨hg1, h⟩ := grd_some h
  refine va_iald hx hb hK.1 hP 2 0 rfl rfl hg1 dX8_standingOf_2 ?_
  refine lv_bipush (v := (15 : Int32)) hx hb dX8_standingOf_3 (by decide) ?_
  refine lv_iand hx hb dX8_standingOf_5 ?_
  refine lv_aload_n hx hb dX8_standingOf_6 rfl (lv_at hl 0 rfl) ?_
  refine va_get (D := G.1) (ci := 8) (v := .ref a_t_selected) (C := RX8) (T := TX8) (N := 6) hx hb hB iX8 hown hK.1 hP 0 rfl rfl 3 (by decide) (hB _ kw273) (fun _ h9 => h9) rfl dX8_standingOf_7 ?_
  refine lv_iconst (v := (0 : Int32)) hx hb dX8_standingOf_10 (by decide) ?_
  refine va_iald hx hb hK.1 hP 1 0 rfl rfl (vp_in_nI (n := 0) (N := 102) (by decide) (by decide)) dX8_standingOf_11 ?_
  refine lv_iconst (v := (1 : Int32)) hx hb dX8_standingOf_12 (by decide) ?_
  refine lv_iadd hx hb dX8_standingOf_13 ?_
  refine lv_bipush (v := (15 : Int32)) hx hb dX8_standingOf_14 (by decide) ?_
  refine lv_iand hx hb dX8_standingOf_16 ?_
  refine lv_icmp_ne (tgt := 24) hx hb dX8_standingOf_17 (by decide) (fun hc17 => ?_) (fun hc17 => ?_)
  · have h := brc_ff h hc17
    refine lv_iconst (v := (0 : Int32)) hx hb dX8_standingOf_24 (by decide) ?_
    exact wX8_standingOf_L25 C x2 x3 (0 : Int32) _ _ _ h hP hD hS (lv_sub hl [0, 1, 2, 3] rfl)
  · have h := brc_tt h hc17
    refine lv_iconst (v := (1 : Int32)) hx hb dX8_standingOf_20 (by decide) ?_
    refine lv_goto (tgt := 25) hx hb dX8_standingOf_21 (by decide) ?_
    exact wX8_standingOf_L25 C x2 x3 (1 : Int32) _ _ _ h hP hD hS (lv_sub hl [0, 1, 2, 3] rfl)
set_option maxHeartbeats 4000000 in
set_option maxRecDepth 100000 in
theorem mX8_standingOf (l : Launch) (G : GT) (a_t : Nat) (a_t_selected : Nat) (a_p1 : Nat) (a_t_codes : Nat) (N_p1 : Nat) (t_timeout : Int32) (t_acted : Int32) (t_selectedLength : Int32) (t_selectedTick : Int32) (t_selected : Nat → Int32) (p1 : Nat → Int32) (x2 : Int32) (x3 : Int32) (sz : Nat) (out : Int32) (h : fX8_standingOf N_p1 t_timeout t_selectedLength t_selectedTick t_selected p1 x2 x3 = some out) : Met l yX8_standingOf wsX8_standingOf rmX8_standingOf (gPc G [.ref a_t, .ref a_p1, .int x2, .int x3] sz (wdX8_standingOf G a_t a_t_selected a_p1 a_t_codes N_p1 t_timeout t_acted t_selectedLength t_selectedTick t_selected p1)) (gQi G (va_A (wdX8_standingOf G a_t a_t_selected a_p1 a_t_codes N_p1 t_timeout t_acted t_selectedLength t_selectedTick t_selected p1) sz) out (wdX8_standingOf G a_t a_t_selected a_p1 a_t_codes N_p1 t_timeout t_acted t_selectedLength t_selectedTick t_selected p1)) 0 0 (va_A (wdX8_standingOf G a_t a_t_selected a_p1 a_t_codes N_p1 t_timeout t_acted t_selectedLength t_selectedTick t_selected p1) sz) := by
  refine Met.ofW (cc := cX8_standingOf) (maxL := 6) (ret := (some .int)) (by decide) rfl ?_
  intro p e s m args below meth c s₁ B hml hv
  obtain ⟨rfl, hsz, hP, hK, hD0⟩ := hv
  have hts := atoms_spec (ws := wsX8_standingOf) B.pre
  have hown : s.vm.findClass "OutStation$Relays" = some m.cls := findClass_of_methodNamed B.named
  subst hsz
  have hD := hD0.self (sz := s.heap.size)
  generalize hAe : va_A (wdX8_standingOf G a_t a_t_selected a_p1 a_t_codes N_p1 t_timeout t_acted t_selectedLength t_selectedTick t_selected p1) s.heap.size = A at hD ⊢
  have hA : ∀ q : Nat, s.heap.size ≤ q → A q := fun q h => by rw [← hAe]; exact Or.inr h
  have hS : va_S A s.heap s.heap [] := va_S.rf
  have hl := lv_entry ([.ref a_t, .ref a_p1, .int x2, .int x3]) (n := 6) (Nat.le_of_ble_eq_true rfl)
  rw [lg_entry_eq]
  generalize (lg_sl ([.ref a_t, .ref a_p1, .int x2, .int x3]) ++ List.replicate (6 - (lg_sl ([.ref a_t, .ref a_p1, .int x2, .int x3])).length) Slot.unset).toArray = ls at hl ⊢
  exact wX8_standingOf_E ⟨B.exec, B.bytes, B.returns, hml, hown, hts, B.notSynchronized, hA, hK⟩ x2 x3 _ _ _ h hP hD hS hl
