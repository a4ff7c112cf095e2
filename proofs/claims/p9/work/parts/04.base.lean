/-! The pure side: partial functions as Option; guards, branches, calls. -/
def FU : Nat := 5000
noncomputable def grd {α : Type} (c : Prop) (x : Option α) : Option α := @ite (Option α) c (Classical.propDecidable c) x none
noncomputable def brc {α : Type} (c : Prop) (a b : Option α) : Option α := @ite (Option α) c (Classical.propDecidable c) a b
def bnd {α β : Type} (x : Option α) (f : α → Option β) : Option β := match x with
  | none => none
  | some u => f u
theorem grd_t {α : Type} {c : Prop} {x : Option α} (h : c) : grd c x = x := by unfold grd; exact if_pos h
theorem grd_some {α : Type} {c : Prop} {x : Option α} {y : α} (h : grd c x = some y) : c ∧ x = some y := by
  by_cases hc : c
  · rw [grd_t hc] at h; exact ⟨hc, h⟩
  · unfold grd at h; rw [if_neg hc] at h; cases h
theorem brc_t {α : Type} {c : Prop} {a b : Option α} (h : c) : brc c a b = a := by unfold brc; exact if_pos h
theorem brc_f {α : Type} {c : Prop} {a b : Option α} (h : ¬ c) : brc c a b = b := by unfold brc; exact if_neg h
theorem brc_tt {α : Type} {c : Prop} {a b x : Option α} (h : brc c a b = x) (hc : c) : a = x := by rw [brc_t hc] at h; exact h
theorem brc_ff {α : Type} {c : Prop} {a b x : Option α} (h : brc c a b = x) (hc : ¬ c) : b = x := by rw [brc_f hc] at h; exact h
theorem bnd_some {α β : Type} {x : Option α} {f : α → Option β} {y : β} (h : bnd x f = some y) : ∃ u, x = some u ∧ f u = some y := by
  cases x with
  | none => cases h
  | some u => exact ⟨u, rfl, h⟩
theorem bnd_t {α β : Type} {x : Option α} {f : α → Option β} {u : α} (h : x = some u) : bnd x f = f u := by rw [h]; rfl
abbrev ix (i : Int32) : Nat := i.toNatClampNeg
def sel3 {α : Type} (a b c : α) (k : Nat) : α := if k = 0 then a else if k = 1 then b else c
theorem sel3_0 {α : Type} {a b c : α} {k : Nat} (h : k = 0) : sel3 a b c k = a := by rw [h]; rfl
theorem sel3_1 {α : Type} {a b c : α} {k : Nat} (h : k = 1) : sel3 a b c k = b := by rw [h]; rfl
theorem sel3_2 {α : Type} {a b c : α} {k : Nat} (h0 : ¬ k = 0) (h1 : ¬ k = 1) : sel3 a b c k = c := by unfold sel3; rw [if_neg h0, if_neg h1]
/-- an int that a boolean place holds as it is -/
def isB (x : Int32) : Prop := x = 0 ∨ x = 1
theorem isB_nar {x : Int32} (h : isB x) : narrow .boolean (.int x) = .int x := by rcases h with rfl | rfl <;> decide +kernel
theorem isB_fit {x : Int32} (h : isB x) : fits .boolean (.int x) = true := by rcases h with rfl | rfl <;> decide +kernel
theorem isB_vp {x : Int32} (h : isB x) : vp_nar .boolean x = x := by rcases h with rfl | rfl <;> decide +kernel
/-! The machine's side: what every contract takes as known. -/
abbrev GT : Type := va_G × ClassId × ClassId × ClassId × ClassId
abbrev tyL (G : GT) : List (ClassId × FieldType) := [(G.2.1, .int), (G.2.2.1, .boolean), (G.2.2.2.1, .object "OutStation$EventRow"), (G.2.2.2.2, .long)]
def nestL : List (String × Nat × MethodName × String) := [("OutStation$Incoming", 38, yX9_frameLength, "OutStation"), ("OutStation$Incoming", 73, yX9_checkOf, "OutStation"), ("OutStation$Outgoing", 60, yX9_frameLength, "OutStation"), ("OutStation$Outgoing", 70, yX9_checkOf, "OutStation"), ("OutStation", 21, yX5_init, "OutStation"), ("OutStation", 28, yX1_init, "OutStation"), ("OutStation", 35, yX0_init, "OutStation"), ("OutStation", 49, yX7_init, "OutStation")]
def gK (G : GT) (U : State) : Prop := va_K G.1 vwCl (tyL G) U ∧ (∀ q ∈ nestL, va_Nw (.methodLinkNest q.1 q.2.1 q.2.2.1 q.2.2.2) U) ∧ va_AO "OutStation$EventRow" U
theorem gK.warm {G : GT} {s U : State} (hW : s.WarmedH U.vm) (h : gK G s) : gK G U := ⟨va_K.moved hW.alike h.1, fun q hq => va_Nw.warmM hW (h.2.1 q hq), va_AO.moved hW.alike h.2.2⟩
theorem gK.calling {G : GT} {U : State} {g : JFrame} {mk : MethodId} {a : Array Value} (h : gK G U) : gK G (U.calling g mk a) := ⟨va_K.moved (u := U) (U := U.calling g mk a) (Vm.Alike.refl U.vm) h.1, fun q hq => va_Nw.same rfl (u := U) (U := U.calling g mk a) rfl (h.2.1 q hq), va_AO.moved (u := U) (U := U.calling g mk a) (Vm.Alike.refl U.vm) h.2.2⟩
abbrev gPc (G : GT) (av : List Value) (sz : Nat) (ws : va_W) : Array Value → State → Prop := va_Pc av (fun U => U.heap.size = sz ∧ va_P G.1 vwCl ws U.heap ∧ gK G U ∧ va_D (fun _ => True) ws)
abbrev gB (G : GT) (A : Nat → Prop) (w1 : va_W) : Unit → State → Prop := fun _ t => va_P G.1 vwCl w1 t.heap ∧ va_D A w1
abbrev gQi (G : GT) (A : Nat → Prop) (r : Int32) (w1 : va_W) : Array Value → State → Outcome → State → Prop := va_Qi (fun (x : Int32) (_ : Unit) => x = r) (gB G A w1) A
abbrev gQv (G : GT) (A : Nat → Prop) (w1 : va_W) : Array Value → State → Outcome → State → Prop := va_Qv (fun (_ : Unit) => True) (gB G A w1) A
abbrev gQr (G : GT) (A : Nat → Prop) (ad : Nat) (w1 : va_W) : Array Value → State → Outcome → State → Prop := va_Qr (fun (_ : Unit) => True) (fun _ a t => a = ad ∧ va_P G.1 vwCl w1 t.heap ∧ va_D A w1) A
theorem gBlind {G : GT} {av : List Value} {sz : Nat} {ws : va_W} : FrameBlind (gPc G av sz ws) := fun a U g mk q => by
  obtain ⟨q0, q1, qP, qK, qD⟩ := q
  exact ⟨q0, q1, qP, qK.calling, qD⟩
/-- what a method's walk stands on -/
def cxt (p : Program) (s : State) (m : MethodId) (args : Array Value) (meth : Method) (c : Code) (bytes : ByteArray) (ret : Option FieldType) (maxL : Nat) (own : String) (ws : List Cond) (G : GT) (A : Nat → Prop) : Prop :=
  p.tables.exec = Jvm.exec ∧ c.code = bytes ∧ meth.sig.returnType = ret ∧ c.maxLocals = maxL ∧ s.vm.findClass own = some m.cls ∧ (∀ w ∈ ws, w.before args s = true) ∧ meth.locks = false ∧ (∀ q : Nat, s.heap.size ≤ q → A q) ∧ gK G s
section GC
variable {p : Program} {l : Launch} {e : Env} {R : Room} {s : State} {m : MethodId} {args : Array Value} {below : List Frame} {meth : Method} {c : Code} {H : Heap} {locs : List Loc} {cells slots : Nat} {Q : State → Prop}
variable {pc : Nat} {ls : Array Slot} {rest st0 : List Value} {G : GT} {A : Nat → Prop} {ws wc wr w1 : va_W} {y : MethodName} {bytes cc : ByteArray} {maxL nL n index ci qr : Nat} {ret : Option FieldType} {wy Ts : List Cond} {rm : Room} {own C host : String} {b : Nat} {As : List Value} {fs : List Value} {q : vw_C} {r : Int32} {mc ms : Nat}
theorem gPreS {av : List Value} (hK : gK G s) (hP : va_P G.1 vwCl wc H) (hD : va_D A wc) : PreS s H (gPc G av H.size wc) av :=
  ⟨gBlind, fun U hU hW => ⟨rfl, by rw [hU], by rw [hU]; exact hP, hK.warm hW, hD.weaken (fun _ _ _ _ => trivial)⟩⟩
theorem gPreV (hK : gK G s) (hP : va_P G.1 vwCl wc H) (hD : va_D A wc) (hc : vwCl[ci]? = some q) (hC : q.1 = C) (he : wc[qr]? = some (b, .inr (ci, fs))) : PreV s H C b (gPc G (.ref b :: As) H.size wc) As :=
  ⟨gBlind, by rw [← hC]; exact va_recv hK.1 hP hc he, fun U hU hW => ⟨rfl, by rw [hU], by rw [hU]; exact hP, hK.warm hW, hD.weaken (fun _ _ _ _ => trivial)⟩⟩
theorem g_perm {α : Type} {f : Nat → Option α} : ∀ {is : List Nat} {w : List α}, is.map f = w.map some → is.filterMap f = w
  | [], [], _ => rfl
  | [], _ :: _, h => by cases h
  | _ :: _, [], h => by cases h
  | i :: is, a :: w, h => by
    rw [List.map_cons, List.map_cons] at h
    injection h with h1 h2
    rw [List.filterMap_cons, h1]
    exact congrArg (List.cons a) (g_perm h2)
theorem g_same {ws' : va_W} (h : va_D A ws) (e : ws'.map (fun q => q.1) = ws.map (fun q => q.1)) : va_D A ws' := by
  have back : ∀ (i : Nat) (p : Nat × va_E), ws'[i]? = some p → ∃ p0, ws[i]? = some p0 ∧ p0.1 = p.1 := by
    intro i p hp
    have h1 : (ws'.map (fun q => q.1))[i]? = some p.1 := by rw [List.getElem?_map, hp]; rfl
    rw [e, List.getElem?_map] at h1
    cases hw : ws[i]? with
    | none => rw [hw] at h1; cases h1
    | some p0 => rw [hw] at h1; exact ⟨p0, rfl, Option.some.inj h1⟩
  refine ⟨fun i j p q hp hq hpq => ?_, fun k q hq => ?_⟩
  · obtain ⟨p0, e1, e2⟩ := back i p hp
    obtain ⟨q0, e3, e4⟩ := back j q hq
    exact h.1 i j p0 q0 e1 e3 (by rw [e2, e4, hpq])
  · obtain ⟨q0, e1, e2⟩ := back k q hq
    rw [← e2]
    exact h.2 k q0 e1
theorem g_at {α : Type} {is : List Nat} {f g : Nat → Option α} (h : is.map f = is.map g) {k : Nat} (hk : k ∈ is) : f k = g k := by
  induction is with
  | nil => cases hk
  | cons i is ih =>
    rw [List.map_cons, List.map_cons] at h
    injection h with h1 h2
    rcases List.mem_cons.mp hk with rfl | h3
    · exact h1
    · exact ih h2 h3
theorem g_upd {D : va_G} {cl : List vw_C} {H1 : Heap} {w2 : va_W} (hP : va_P D cl ws H) (hD : va_D A ws) (isC isR : List Nat) (hC : isC.map (fun i => ws[i]?) = wc.map some) (hk : ∀ q : Nat, q < H.size → ¬ va_A wc H.size q → H1[q]? = H[q]?) (hP1 : va_P D cl w1 H1)
    (hR2 : isR.map (fun i => w2[i]?) = isR.map (fun i => ws[i]?)) (hC2 : isC.map (fun i => w2[i]?) = w1.map some) (hall : (List.range w2.length).all (fun k => isR.contains k || isC.contains k) = true) (hdis : ∀ i ∈ isR, i ∉ isC) : va_P D cl w2 H1 := by
  intro k q hq
  have hlt : k < w2.length := (List.getElem?_eq_some_iff.mp hq).1
  have hor := List.all_eq_true.mp hall k (List.mem_range.mpr hlt)
  have hor : k ∈ isR ∨ k ∈ isC := by simpa using hor
  rcases hor with hR | hCm
  · have hw : ws[k]? = some q := by rw [← g_at hR2 hR]; exact hq
    have hl := (hP k q hw).lt
    refine (hP k q hw).kept (hk q.1 hl (fun h => ?_))
    rcases h with ⟨k2, e, h⟩ | h
    · have h1 : (isC.map (fun i => ws[i]?))[k2]? = some (some (q.1, e)) := by rw [hC, List.getElem?_map, h]; rfl
      rw [List.getElem?_map] at h1
      cases hi : isC[k2]? with
      | none => rw [hi] at h1; cases h1
      | some i =>
        rw [hi] at h1
        have hij := hD.1 k i q (q.1, e) hw (Option.some.inj h1) rfl
        exact hdis k hR (by rw [hij]; exact List.mem_of_getElem? hi)
    · omega
  · obtain ⟨j, hj⟩ := List.getElem?_of_mem hCm
    have h1 : (isC.map (fun i => w2[i]?))[j]? = some (some q) := by rw [List.getElem?_map, hj]; exact congrArg some hq
    rw [hC2, List.getElem?_map] at h1
    cases hw : w1[j]? with
    | none => rw [hw] at h1; cases h1
    | some q1 =>
      rw [hw] at h1
      cases Option.some.inj (Option.some.inj h1)
      exact hP1 j _ hw
/-- where an entry comes from: the list before, or what a call gave -/
def mixF {α : Type} (ws w1 : List α) (q : Nat ⊕ Nat) : Option α := match q with
  | .inl i => ws[i]?
  | .inr j => w1[j]?
def mixC (isC : List Nat) : Nat → List (Nat ⊕ Nat) → Bool
  | _, [] => true
  | k, .inl i :: s => Nat.beq i k && !(isC.contains k) && mixC isC (k + 1) s
  | k, .inr j :: s => (match isC[j]? with | some c => Nat.beq c k | none => false) && mixC isC (k + 1) s
theorem mixC_at {isC : List Nat} : ∀ {k0 : Nat} {src : List (Nat ⊕ Nat)}, mixC isC k0 src = true → ∀ {k : Nat} {q : Nat ⊕ Nat}, src[k]? = some q → (match q with | .inl i => i = k0 + k ∧ (k0 + k) ∉ isC | .inr j => isC[j]? = some (k0 + k))
  | _, [], _, k, q, h => by rw [List.getElem?_nil] at h; cases h
  | k0, .inl i :: s, hc, k, q, h => by
    have hc : (Nat.beq i k0 && !(isC.contains k0) && mixC isC (k0 + 1) s) = true := hc
    rw [Bool.and_eq_true, Bool.and_eq_true] at hc
    cases k with
    | zero =>
      cases h
      exact ⟨Nat.eq_of_beq_eq_true hc.1.1, fun hm => by have := hc.1.2; rw [List.contains_iff_mem.mpr (show k0 ∈ isC from hm)] at this; cases this⟩
    | succ k =>
      have := mixC_at hc.2 (k := k) (q := q) h
      rw [show k0 + (k + 1) = k0 + 1 + k by omega]
      exact this
  | k0, .inr j :: s, hc, k, q, h => by
    have hc : ((match isC[j]? with | some c => Nat.beq c k0 | none => false) && mixC isC (k0 + 1) s) = true := hc
    rw [Bool.and_eq_true] at hc
    cases k with
    | zero =>
      cases h
      cases hj : isC[j]? with
      | none => rw [hj] at hc; cases hc.1
      | some c =>
        rw [hj] at hc
        show isC[j]? = some k0
        rw [hj, Nat.eq_of_beq_eq_true hc.1]
    | succ k =>
      have := mixC_at hc.2 (k := k) (q := q) h
      rw [show k0 + (k + 1) = k0 + 1 + k by omega]
      exact this
theorem g_mix {D : va_G} {cl : List vw_C} {H1 : Heap} {w2 : va_W} (hP : va_P D cl ws H) (hD : va_D A ws) (isC : List Nat) (hC : isC.map (fun i => ws[i]?) = wc.map some) (had : w1.map (fun q => q.1) = wc.map (fun q => q.1)) (src : List (Nat ⊕ Nat)) (hsrc : mixC isC 0 src = true) (hw2 : src.map (mixF ws w1) = w2.map some) (hk : ∀ q : Nat, q < H.size → ¬ va_A wc H.size q → H1[q]? = H[q]?) (hP1 : va_P D cl w1 H1) : va_P D cl w2 H1 ∧ va_D A w2 := by
  have hat : ∀ (k : Nat) (q : Nat × va_E), w2[k]? = some q → (ws[k]? = some q ∧ k ∉ isC) ∨ (∃ j : Nat, isC[j]? = some k ∧ w1[j]? = some q) := by
    intro k q hq
    have h1 : (src.map (mixF ws w1))[k]? = some (some q) := by rw [hw2, List.getElem?_map, hq]; rfl
    rw [List.getElem?_map] at h1
    cases hs : src[k]? with
    | none => rw [hs] at h1; cases h1
    | some z =>
      rw [hs] at h1
      have h2 : mixF ws w1 z = some q := Option.some.inj h1
      have h3 := mixC_at hsrc hs
      cases z with
      | inl i =>
        have h3 : i = 0 + k ∧ (0 + k) ∉ isC := h3
        rw [Nat.zero_add] at h3
        left
        exact ⟨by rw [← h3.1]; exact h2, h3.2⟩
      | inr j =>
        have h3 : isC[j]? = some (0 + k) := h3
        rw [Nat.zero_add] at h3
        exact Or.inr ⟨j, h3, h2⟩
  -- the address that a place had before
  have hadr : ∀ (k : Nat) (q : Nat × va_E), w2[k]? = some q → ∃ q0, ws[k]? = some q0 ∧ q0.1 = q.1 := by
    intro k q hq
    rcases hat k q hq with ⟨h, _⟩ | ⟨j, h1, h2⟩
    · exact ⟨q, h, rfl⟩
    · have e1 : (w1.map (fun q => q.1))[j]? = some q.1 := by rw [List.getElem?_map, h2]; rfl
      rw [had, List.getElem?_map] at e1
      cases hw : wc[j]? with
      | none => rw [hw] at e1; cases e1
      | some p =>
        rw [hw] at e1
        have e2 : (isC.map (fun i => ws[i]?))[j]? = some (some p) := by rw [hC, List.getElem?_map, hw]; rfl
        rw [List.getElem?_map, h1] at e2
        exact ⟨p, Option.some.inj e2, Option.some.inj e1⟩
  refine ⟨?_, ?_⟩
  · intro k q hq
    rcases hat k q hq with ⟨hw, hCm⟩ | ⟨j, h1, h2⟩
    · have hl := (hP k q hw).lt
      refine (hP k q hw).kept (hk q.1 hl (fun h => ?_))
      rcases h with ⟨k2, e, h⟩ | h
      · have h1 : (isC.map (fun i => ws[i]?))[k2]? = some (some (q.1, e)) := by rw [hC, List.getElem?_map, h]; rfl
        rw [List.getElem?_map] at h1
        cases hi : isC[k2]? with
        | none => rw [hi] at h1; cases h1
        | some i =>
          rw [hi] at h1
          have hij := hD.1 k i q (q.1, e) hw (Option.some.inj h1) rfl
          exact hCm (by rw [hij]; exact List.mem_of_getElem? hi)
      · omega
    · exact hP1 j q h2
  · refine ⟨fun i j p q hp hq hpq => ?_, fun k q hq => ?_⟩
    · obtain ⟨p0, e1, e2⟩ := hadr i p hp
      obtain ⟨q0, e3, e4⟩ := hadr j q hq
      exact hD.1 i j p0 q0 e1 e3 (by rw [e2, e4, hpq])
    · obtain ⟨q0, e1, e2⟩ := hadr k q hq
      rw [← e2]
      exact hD.2 k q0 e1
theorem g_i {aa : Array Value} {w2 : va_W}
    (hr : va_Run p l e R s m args below meth c H locs cells slots mc ms (F0 m pc ls st0) rest (gQi G (va_A wc H.size) r w1 aa) (va_A wc H.size))
    (hP : va_P G.1 vwCl ws H) (hD : va_D A ws) (hS : va_S A s.heap H locs) (hA : ∀ q, s.heap.size ≤ q → A q)
    (isC : List Nat) (hC : isC.map (fun i => ws[i]?) = wc.map some) (had : w1.map (fun q => q.1) = wc.map (fun q => q.1)) (src : List (Nat ⊕ Nat)) (hsrc : mixC isC 0 src = true) (hw2 : src.map (mixF ws w1) = w2.map some)
    (kk : ∀ (H1 : Heap) (locs1 : List Loc), va_P G.1 vwCl w2 H1 → va_D A w2 → va_S A s.heap H1 locs1 → W p l e R s m args below meth c H1 locs1 (cells + mc) (slots + ms) Q (F0 m (pc + 3) ls (.int r :: rest))) :
    W p l e R s m args below meth c H locs cells slots Q (F0 m pc ls st0) := by
  have hF := va_free (wc := wc) hD hS hA isC hC
  refine va_calli hr hS (fun q _ h => hF q h) hF (fun r1 u t H1 locs1 ht hvm hw hB hz1 hk1 hS => ?_)
  obtain ⟨hP1, hD1⟩ := hB
  rw [ht] at hP1
  obtain ⟨hP2, hD2⟩ := g_mix hP hD isC hC had src hsrc hw2 hk1 hP1
  rw [show r1 = r from hw]
  exact kk H1 locs1 hP2 hD2 hS
theorem g_v {aa : Array Value} {w2 : va_W}
    (hr : va_Run p l e R s m args below meth c H locs cells slots mc ms (F0 m pc ls st0) rest (gQv G (va_A wc H.size) w1 aa) (va_A wc H.size))
    (hP : va_P G.1 vwCl ws H) (hD : va_D A ws) (hS : va_S A s.heap H locs) (hA : ∀ q, s.heap.size ≤ q → A q)
    (isC : List Nat) (hC : isC.map (fun i => ws[i]?) = wc.map some) (had : w1.map (fun q => q.1) = wc.map (fun q => q.1)) (src : List (Nat ⊕ Nat)) (hsrc : mixC isC 0 src = true) (hw2 : src.map (mixF ws w1) = w2.map some)
    (kk : ∀ (H1 : Heap) (locs1 : List Loc), va_P G.1 vwCl w2 H1 → va_D A w2 → va_S A s.heap H1 locs1 → W p l e R s m args below meth c H1 locs1 (cells + mc) (slots + ms) Q (F0 m (pc + 3) ls rest)) :
    W p l e R s m args below meth c H locs cells slots Q (F0 m pc ls st0) := by
  have hF := va_free (wc := wc) hD hS hA isC hC
  refine va_callv hr hS (fun q _ h => hF q h) hF (fun u t H1 locs1 ht hvm hw hB hz1 hk1 hS => ?_)
  obtain ⟨hP1, hD1⟩ := hB
  rw [ht] at hP1
  obtain ⟨hP2, hD2⟩ := g_mix hP hD isC hC had src hsrc hw2 hk1 hP1
  exact kk H1 locs1 hP2 hD2 hS
theorem g_r {aa : Array Value} {w2 : va_W} {ad : Nat}
    (hr : va_Run p l e R s m args below meth c H locs cells slots mc ms (F0 m pc ls st0) rest (gQr G (va_A wc H.size) ad w1 aa) (va_A wc H.size))
    (hP : va_P G.1 vwCl ws H) (hD : va_D A ws) (hS : va_S A s.heap H locs) (hA : ∀ q, s.heap.size ≤ q → A q)
    (isC : List Nat) (hC : isC.map (fun i => ws[i]?) = wc.map some) (had : w1.map (fun q => q.1) = wc.map (fun q => q.1)) (src : List (Nat ⊕ Nat)) (hsrc : mixC isC 0 src = true) (hw2 : src.map (mixF ws w1) = w2.map some)
    (kk : ∀ (H1 : Heap) (locs1 : List Loc), va_P G.1 vwCl w2 H1 → va_D A w2 → va_S A s.heap H1 locs1 → W p l e R s m args below meth c H1 locs1 (cells + mc) (slots + ms) Q (F0 m (pc + 3) ls (.ref ad :: rest))) :
    W p l e R s m args below meth c H locs cells slots Q (F0 m pc ls st0) := by
  have hF := va_free (wc := wc) hD hS hA isC hC
  refine va_callr hr hS (fun q _ h => hF q h) hF (fun u ra t H1 locs1 ht hvm hw hB hz1 hk1 hS => ?_)
  obtain ⟨ha, hP1, hD1⟩ := hB
  rw [ht] at hP1
  obtain ⟨hP2, hD2⟩ := g_mix hP hD isC hC had src hsrc hw2 hk1 hP1
  rw [ha]
  exact kk H1 locs1 hP2 hD2 hS
end GC
