/-! Throwing: a handler in the caller whose class's link may be open still. -/
section ZX
variable {e : Env} {f : JFrame} {a : Addr}
theorem zx_link {s : State} {x : ExceptionTableEntry} {t : List ExceptionTableEntry} {k : ClassId} {cell : Cell} {Q : Handler → Pre} {E : CtlPost} {d : Bool} {acts : List Action} (hx : covers x f.pc = true) (h0 : x.catchType ≠ 0)
    (hl : s.vm.ClassLinks e.platform f.method.cls x.catchType k) (hcell : s.heap[a]? = some cell) (hobj : ∀ k, cell.vm ≠ .statics k) (hk : ∃ z, s.vm.classes[cell.cls]? = some z) (hc : ∃ z, s.vm.classes[k]? = some z) :
    (s.vm.assignable cell.cls k = true → (wp (findHandler.go f a (x :: t)) Q E e d acts s ↔ Q (.found x.handlerPc) d acts (s.setVm (s.vm.noted f.method.cls x.catchType (.cls k))))) ∧
    (s.vm.assignable cell.cls k = false → (wp (findHandler.go f a (x :: t)) Q E e d acts s ↔ wp (findHandler.go f a t) Q E e d acts (s.setVm (s.vm.noted f.method.cls x.catchType (.cls k))))) := by
  have hx' := hx
  simp only [covers] at hx'
  obtain ⟨hok, hto⟩ := (resolveClass_links e.toSetting hl).op (op := VmOp.resolveClass f.method.cls x.catchType) rfl
  have hal : s.vm.Alike (s.vm.noted f.method.cls x.catchType (.cls k)) := (Vm.Alike.refl s.vm).noted _ _ _
  obtain ⟨z1, hz1⟩ := hk
  obtain ⟨z2, hz2⟩ := hc
  obtain ⟨w1, hw1, -⟩ := hal.2.2 _ _ hz1
  obtain ⟨w2, hw2, -⟩ := hal.2.2 _ _ hz2
  constructor
  · intro hf
    have hf' : (s.vm.noted f.method.cls x.catchType (.cls k)).assignable cell.cls k = true := by rw [hal.assignable]; exact hf
    simp [findHandler.go, hx', h0, hok, hto, hcell, hobj, hw1, hw2, hf', VmOp.dirties, VmOp.acts]
  · intro hf
    have hf' : (s.vm.noted f.method.cls x.catchType (.cls k)).assignable cell.cls k = false := by rw [hal.assignable]; exact hf
    simp [findHandler.go, hx', h0, hok, hto, hcell, hobj, hw1, hw2, hf', VmOp.dirties, VmOp.acts]
/-- a row ahead that doesn't take it -/
def zx_past (pl : Platform) (s0 : State) (d : ClassId) (pc : Nat) (thr : ClassId) (y : ExceptionTableEntry) : Prop := covers y pc = false ∨ (y.catchType ≠ 0 ∧ ∃ k, s0.vm.ClassLinks pl d y.catchType k ∧ s0.vm.assignable thr k = false)
theorem zx_rows {s0 : State} {cell : Cell} (hobj : ∀ k, cell.vm ≠ .statics k) (hk0 : ∃ z, s0.vm.classes[cell.cls]? = some z) (x : ExceptionTableEntry) (suf : List ExceptionTableEntry) (hx : covers x f.pc = true) (h0 : x.catchType ≠ 0) {kx : ClassId} (hlx : s0.vm.ClassLinks e.platform f.method.cls x.catchType kx) (hfx : s0.vm.assignable cell.cls kx = true) :
    ∀ (pre : List ExceptionTableEntry) (S : State), s0.WarmedH S.vm → S.heap[a]? = some cell → (∀ y ∈ pre, zx_past e.platform s0 f.method.cls f.pc cell.cls y) →
      ∃ vm', s0.WarmedH vm' ∧ ∀ (Q : Handler → Pre) (E : CtlPost) (d : Bool) (acts : List Action), wp (findHandler.go f a (pre ++ x :: suf)) Q E e d acts S ↔ Q (.found x.handlerPc) d acts (S.setVm vm') := by
  have noted : ∀ {S : State} {i k : Nat}, s0.WarmedH S.vm → s0.vm.ClassLinks e.platform f.method.cls i k → s0.WarmedH (S.vm.noted f.method.cls i (.cls k)) ∧ ∃ z, S.vm.classes[k]? = some z := by
    intro S i k hW hl
    obtain ⟨dk, _, _, kt, hd, _, _, _, _, hkt, _, hop⟩ := hl.here
    obtain ⟨kt', hkt', -⟩ := hW.alike.2.2 _ _ hkt
    exact ⟨hW.noted hd hop (State.rightAt_cls hl), _, hkt'⟩
  obtain ⟨z0, hz0⟩ := hk0
  intro pre
  induction pre with
  | nil =>
    intro S hW hcell _
    obtain ⟨z1, hz1, -⟩ := hW.alike.2.2 _ _ hz0
    obtain ⟨n1, n2⟩ := noted hW hlx
    refine ⟨_, n1, fun Q E d acts => ?_⟩
    rw [List.nil_append]
    exact (zx_link hx h0 (hW.classLinks hlx) hcell hobj ⟨z1, hz1⟩ n2).1 (by rw [hW.alike.assignable]; exact hfx)
  | cons y ys ih =>
    intro S hW hcell hp
    have hp2 := fun z hz => hp z (List.mem_cons_of_mem _ hz)
    obtain ⟨z1, hz1, -⟩ := hW.alike.2.2 _ _ hz0
    cases hcv : covers y f.pc with
    | false =>
      obtain ⟨vm', h1, h2⟩ := ih S hW hcell hp2
      refine ⟨vm', h1, fun Q E d acts => ?_⟩
      rw [List.cons_append, W.findHandler_go_skip hcv]
      exact h2 Q E d acts
    | true =>
      rcases hp y List.mem_cons_self with h | ⟨y0, k, hl, hno⟩
      · rw [hcv] at h; cases h
      · obtain ⟨n1, n2⟩ := noted hW hl
        obtain ⟨vm', h1, h2⟩ := ih (S.setVm (S.vm.noted f.method.cls y.catchType (.cls k))) n1 hcell hp2
        refine ⟨vm', h1, fun Q E d acts => ?_⟩
        rw [List.cons_append, (zx_link hcv y0 (hW.classLinks hl) hcell hobj ⟨z1, hz1⟩ n2).2 (by rw [hW.alike.assignable]; exact hno)]
        exact h2 Q E d acts
end ZX
section ZX2
variable {p : Program} {l : Launch} {e : Env} {R : Room} {s : State} {m : MethodId} {args : Array Value} {below : List Frame} {meth : Method} {c : Code} {H : Heap} {locs : List Loc} {cells slots : Nat} {Q : State → Prop} {pc : Nat} {ls : Array Slot} {rest : List Value}
/-- caught by the row x of this method's table; the rows ahead don't take it -/
theorem zx_catch {own name : String} {E : String} {ce : Cell} {q : Addr} (hown : s.vm.findClass own = some m.cls) (pre : List ExceptionTableEntry) (x : ExceptionTableEntry) (suf : List ExceptionTableEntry) (hsplit : c.exceptionTable.toList = pre ++ x :: suf)
    (hpass : ∀ z ∈ pre, covers z pc = false ∨ (z.catchType ≠ 0 ∧ ∃ nm : String, (Cond.classLink own z.catchType nm).before args s = true ∧ va_Nc E nm s)) (hx : covers x pc = true) (h0 : x.catchType ≠ 0)
    (hlink : (Cond.classLink own x.catchType name).before args s = true) (hcast : (Cond.castable E name).before args s = true) (hcell : H[q]? = some ce) (hv : ce.vm = .none) (hcl : s.vm.findClass E = some ce.cls)
    (kk : W p l e R s m args below meth c H locs cells slots Q (F0 m x.handlerPc ls [.ref q])) : vx_W p l e R s m args below meth c H locs cells slots Q (F0 m pc ls rest) q := by
  intro T hT X
  have hpl : e.platform.magicAccessors = ({} : Platform).magicAccessors := by rw [X.admits.platform]
  obtain ⟨c3, c4, hc3, hc4, hasg⟩ := Cond.castable_spec hcast
  cases Option.some.inj (hc3.symm.trans hcl)
  obtain ⟨c5, hc5, hcl5⟩ := Cond.classLink_spec hown hlink e.platform hpl
  cases Option.some.inj (hc4.symm.trans hc5)
  have hk0 : ∃ z, s.vm.classes[ce.cls]? = some z := by obtain ⟨k9, h9, -⟩ := Vm.findClass_spec hcl; exact ⟨k9, h9⟩
  have hobj : ∀ k, ce.vm ≠ .statics k := fun k h => by rw [hv] at h; cases h
  obtain ⟨vm', hW', hgo⟩ := zx_rows (e := e) (f := F0 m pc ls rest) (a := q) (s0 := s) (cell := ce) hobj hk0 x suf hx h0 hcl5 hasg pre ((T.setTop (F0 m pc ls rest)).pushFrame (.throwing q)) X.warmed (by rw [Stand.throwing_heap, hT]; exact hcell) (fun z hz => by
    rcases hpass z hz with h | ⟨hz0, nm, hl1, hn1⟩
    · exact Or.inl h
    · obtain ⟨c6, hc6, hcl6⟩ := Cond.classLink_spec hown hl1 e.platform hpl
      obtain ⟨a8, b8, h1, h2, h3⟩ := hn1
      cases Option.some.inj (h1.symm.trans hcl)
      cases Option.some.inj (h2.symm.trans hc6)
      exact Or.inr ⟨hz0, _, hcl6, h3⟩)
  have X' := X.noted hW'
  obtain ⟨t, a1, b1⟩ := kk (T.setVm vm') hT X'
  refine ⟨t, ?_, b1⟩
  have hAt : At T (F0 m pc ls rest).method c below := X.here
  obtain ⟨hgoes, hwithin⟩ := hAt.throwing q
  refine Steps.head hgoes hwithin ?_
  have hfind : ∀ (Q : Handler → Pre) (E : CtlPost) (d : Bool) (acts : List Action), wp (findHandler (F0 m pc ls rest) q) Q E e d acts ((T.setTop (F0 m pc ls rest)).pushFrame (.throwing q)) ↔ Q (.found x.handlerPc) d acts (((T.setTop (F0 m pc ls rest)).pushFrame (.throwing q)).setVm vm') := fun Q E d acts => by
    rw [W.findHandler_eq (meth := meth) (code := c) (by rw [Stand.throwing_vm]; exact X.method') X.code, hsplit]
    exact hgo Q E d acts
  have hstep : (stepThrowing e ((T.setTop (F0 m pc ls rest)).pushFrame (.throwing q)) q (.java (F0 m pc ls rest) :: T.frames.tail)).Is ((((T.setTop (F0 m pc ls rest)).pushFrame (.throwing q)).setVm vm').setFrames (.java { F0 m pc ls rest with pc := x.handlerPc, stack := [.ref q] } :: T.frames.tail)) [] := by
    simp only [stepThrowing, searchFrame, vmDo]
    generalize hr : Sem.go _ e false [] ((T.setTop (F0 m pc ls rest)).pushFrame (.throwing q)) = res
    obtain ⟨as, rfl, ha⟩ := Sem.eq_ok_of hr (a := Handler.found x.handlerPc) (s' := ((T.setTop (F0 m pc ls rest)).pushFrame (.throwing q)).setVm vm') (acts' := []) (by simp [hfind _ _ _ _])
    exact ⟨rfl, ha⟩
  rw [stepThread_throwing (frames_entered hAt.top _), hstep.1]
  obtain ⟨g0, hg⟩ := Option.isSome_iff_exists.mp hAt.top
  obtain ⟨r, hr⟩ := State.topJava?_eq_some.mp hg
  have hr' : (T.setVm vm').frames = .java g0 :: r := hr
  rw [State.setTop_of_frames _ hr'] at a1
  have hsf : ∀ (u : State) (F K : List Frame), ((u.setFrames F).setVm vm').setFrames K = (u.setVm vm').setFrames K := fun u F K => by
    rw [show (u.setFrames F).setVm vm' = (u.setVm vm').setFrames F from rfl, State.setFrames_setFrames]
  rw [hr, List.tail_cons, State.pushFrame, hsf, State.setTop_of_frames _ hr, hsf]
  exact a1
end ZX2
/-! What a method that may throw takes as known beside gK. -/
def exN (k : Nat) : String := if k = 0 then "java/lang/IllegalArgumentException" else "java/lang/IndexOutOfBoundsException"
def decL : List MethodName := [⟨"java/lang/RuntimeException", "<init>", "(Ljava/lang/String;)V"⟩, ⟨"java/lang/Exception", "<init>", "(Ljava/lang/String;)V"⟩, ⟨"java/lang/Throwable", "<init>", "(Ljava/lang/String;)V"⟩]
def casL : List (String × String) := [("java/lang/IllegalArgumentException", "java/lang/IllegalArgumentException"), ("java/lang/IndexOutOfBoundsException", "java/lang/IndexOutOfBoundsException")]
def strL : List (Nat × String) := [(96, "n is not 1 .. 20"), (128, "no such number of ticks"), (136, "no such binary"), (150, "no such analog"), (152, "the value is not -32768 .. 32767"), (158, "no such point"), (160, "no such class"), (166, "the band is not 0 .. 65535"), (172, "no such byte"), (181, "no such relay"), (193, "no such event"), (204, "no such what"), (206, "n is not 0 .. 300")]
def gT (G : GT) (U : State) : Prop := gK G U ∧ (∀ y ∈ decL, va_Nw (.declares y) U) ∧ (∀ q ∈ casL, va_Nw (.castable q.1 q.2) U) ∧ (∀ q ∈ strL, ∃ sa, vk_R "OutStation" q.1 q.2 sa U) ∧ va_Nc "java/lang/IllegalArgumentException" "java/lang/IndexOutOfBoundsException" U
theorem gT.warm {G : GT} {s U : State} (hW : s.WarmedH U.vm) (h : gT G s) : gT G U := ⟨h.1.warm hW, fun y hy => va_Nw.warmD hW (h.2.1 y hy), fun q hq => va_Nw.warmC hW (h.2.2.1 q hq), fun q hq => (h.2.2.2.1 q hq).imp (fun _ z => vk_R.warm hW z), va_Nc.moved hW.alike h.2.2.2.2⟩
theorem gT.calling {G : GT} {U : State} {g : JFrame} {mk : MethodId} {a : Array Value} (h : gT G U) : gT G (U.calling g mk a) := ⟨h.1.calling, fun y hy => va_Nw.same rfl (u := U) (U := U.calling g mk a) rfl (h.2.1 y hy), fun q hq => va_Nw.same rfl (u := U) (U := U.calling g mk a) rfl (h.2.2.1 q hq), fun q hq => (h.2.2.2.1 q hq).imp (fun _ z => vk_R.same (u := U) (U := U.calling g mk a) rfl z), va_Nc.moved (u := U) (U := U.calling g mk a) (Vm.Alike.refl U.vm) h.2.2.2.2⟩
/-- the two statics of Throwable, outside A -/
def gZ (A : Nat → Prop) (U : State) (H : Heap) : Prop := vx_Zq Bundle.tN "UNASSIGNED_STACK" Bundle.steD A U H ∧ vx_Zq Bundle.tN "SUPPRESSED_SENTINEL" Bundle.listD A U H
theorem gZ.moved {A : Nat → Prop} {u U : State} {H : Heap} (hvm : u.vm.Alike U.vm) (h : gZ A u H) : gZ A U H := ⟨vx_Zq.moved hvm h.1, vx_Zq.moved hvm h.2⟩
theorem gZ.kept {A : Nat → Prop} {U : State} {H H1 : Heap} (h : gZ A U H) (hq : ∀ a : Nat, a < H.size → ¬ A a → H1[a]? = H[a]?) : gZ A U H1 := ⟨vx_Zq.kept h.1 hq, vx_Zq.kept h.2 hq⟩
theorem gZ.narrow {A B : Nat → Prop} {U : State} {H : Heap} (h : gZ A U H) (hAB : ∀ q, B q → A q) : gZ B U H := ⟨vx_Zq.narrow h.1 hAB, vx_Zq.narrow h.2 hAB⟩
abbrev gPcT (G : GT) (av : List Value) (sz : Nat) (ws : va_W) : Array Value → State → Prop := va_Pc av (fun U => U.heap.size = sz ∧ va_P G.1 vwCl ws U.heap ∧ gT G U ∧ va_D (fun _ => True) ws ∧ gZ (va_A ws sz) U U.heap)
theorem gBlindT {G : GT} {av : List Value} {sz : Nat} {ws : va_W} : FrameBlind (gPcT G av sz ws) := fun a U g mk q => by
  obtain ⟨q0, q1, qP, qK, qD, qZ⟩ := q
  exact ⟨q0, q1, qP, qK.calling, qD, gZ.moved (u := U) (U := U.calling g mk a) (Vm.Alike.refl U.vm) qZ⟩
abbrev gXb {β : Type} (G : GT) (A : Nat → Prop) (out : Nat ⊕ β) (w0 : va_W) : String → Unit → State → Prop := fun E _ t => (∃ k, out = .inl k ∧ E = exN k) ∧ va_P G.1 vwCl w0 t.heap ∧ va_D A w0
abbrev gX {β : Type} (G : GT) (A : Nat → Prop) (out : Nat ⊕ β) (w0 : va_W) : String → State → State → Prop := vx_X (fun (_ : Unit) => True) (gXb G A out w0) A
def cas {α β : Type} (o : Nat ⊕ α) (fl : Nat → Option β) (fr : α → Option β) : Option β := match o with
  | .inl k => fl k
  | .inr u => fr u
section GTH
variable {p : Program} {l : Launch} {e : Env} {R : Room} {s : State} {m : MethodId} {args : Array Value} {below : List Frame} {meth : Method} {c : Code} {H : Heap} {locs : List Loc} {cells slots : Nat} {Q : State → Prop} {pc : Nat} {ls : Array Slot} {rest st0 : List Value} {G : GT} {A : Nat → Prop} {ws wc w1 : va_W} {As : List Value} {C : String} {b ci qr : Nat} {fs : List Value} {q : vw_C}
theorem gPreVT (hT : gT G s) (hP : va_P G.1 vwCl wc H) (hD : va_D A wc) (hZ : gZ A s s.heap) (hS : va_S A s.heap H locs) (hF : ∀ q, va_A wc H.size q → A q) (hc : vwCl[ci]? = some q) (hC : q.1 = C) (he : wc[qr]? = some (b, .inr (ci, fs))) : PreV s H C b (gPcT G (.ref b :: As) H.size wc) As :=
  ⟨gBlindT, by rw [← hC]; exact va_recv hT.1.1 hP hc he, fun U hU hW => ⟨rfl, by rw [hU], by rw [hU]; exact hP, hT.warm hW, hD.weaken (fun _ _ _ _ => trivial), by rw [hU]; exact gZ.moved hW.alike ((hZ.kept hS.2.1).narrow hF)⟩⟩
theorem gPreST {av : List Value} (hT : gT G s) (hP : va_P G.1 vwCl wc H) (hD : va_D A wc) (hZ : gZ A s s.heap) (hS : va_S A s.heap H locs) (hF : ∀ q, va_A wc H.size q → A q) : PreS s H (gPcT G av H.size wc) av :=
  ⟨gBlindT, fun U hU hW => ⟨rfl, by rw [hU], by rw [hU]; exact hP, hT.warm hW, hD.weaken (fun _ _ _ _ => trivial), by rw [hU]; exact gZ.moved hW.alike ((hZ.kept hS.2.1).narrow hF)⟩⟩
/-- 'throw new E("text")' in a method of OutStation -/
theorem g_throw {β : Type} {out : Nat ⊕ β} {Qc : Array Value → State → Outcome → State → Prop} {cc : ByteArray} (k : Nat) {ik is ic : Nat} {text : String} (hx : p.tables.exec = Jvm.exec) (hb : c.code = cc) (hlt : l.stackTraces = false)
    (hown : s.vm.findClass "OutStation" = some m.cls) (hB : ∀ w ∈ BG, w.before args s = true) (hT : gT G s) (hZ : gZ A s s.heap) (hout : ∀ x ∈ c.exceptionTable.toList, False) (hlocks : meth.locks = false) (hml : c.maxLocals = ls.size)
    (hfit : Bundle.fit (exN k) = true) (hcl : Cond.classLink "OutStation" ik (exN k) ∈ BG) (hini : Cond.initialized (exN k) ∈ BG) (hstr : (is, text) ∈ strL)
    (hat : ∀ w ∈ (vx_atS "OutStation" ic (exN k) ["java/lang/RuntimeException", "java/lang/Exception"]).filter goodWord, w ∈ BG)
    (hat2 : ∀ w ∈ (vx_atS "OutStation" ic (exN k) ["java/lang/RuntimeException", "java/lang/Exception"]).filter (fun w => !goodWord w), w ∈ decL.map Cond.declares ++ casL.map (fun q => Cond.castable q.1 q.2))
    (hgood : ∀ w ∈ Cond.classLink "OutStation" ik (exN k) :: Cond.initialized (exN k) :: vx_atS "OutStation" ic (exN k) ["java/lang/RuntimeException", "java/lang/Exception"], vx_ot w = true)
    (d0 : decode cc pc = .ok (.new ik, 3)) (d3 : decode cc (pc + 3) = .ok (.dup, 1)) (d4 : decode cc (pc + 4) = .ok (.ldc is, 2)) (d6 : decode cc (pc + 6) = .ok (.invokespecial ic, 3)) (d9 : decode cc (pc + 9) = .ok (.athrow, 1))
    (hRf : 5 < R.frames) (hRl : (rest.map fun v => v.category).sum + 82 ≤ R.locals) (hRc : cells + 1 ≤ R.cells) (hRs : slots + 6 ≤ R.slots)
    (hP : va_P G.1 vwCl ws H) (hD : va_D A ws) (hS : va_S A s.heap H locs) (ho : (some (.inl k) : Option (Nat ⊕ β)) = some out) :
    W p l e R s m args below meth c H locs cells slots (vx_MQ below Qc (gX G A out ws) args s (cells + 1) (slots + 6) A) (F0 m pc ls rest) := by
  obtain ⟨sa, hsa⟩ := hT.2.2.2.1 _ hstr
  have ho := Option.some.inj ho
  refine vx_throwS (names := ["java/lang/RuntimeException", "java/lang/Exception"]) hx hb hlt hown hfit (by decide +kernel) (hB _ hcl) (hB _ hini) hsa (vx_hat (fun w hw => hB w (hat w hw)) hat2 (fun w hw => ?_)) hgood hZ.1 hZ.2 hS hml.symm d0 d3 d4 d6 d9 (fun x hx => (hout x hx).elim) hRf hRl hRc hRs hlocks (fun t hvm hz hk => ?_) hS.2.2 (Nat.le_refl _) (Nat.le_refl _)
  · rcases List.mem_append.mp hw with h | h
    · obtain ⟨y, hy, rfl⟩ := List.mem_map.mp h
      exact va_Nw.use rfl (hT.2.1 y hy)
    · obtain ⟨q, hq, rfl⟩ := List.mem_map.mp h
      exact va_Nw.use rfl (hT.2.2.1 q hq)
  · exact ⟨(), trivial, ⟨⟨k, ho.symm, rfl⟩, hP.kept (fun j z hz => hk z.1 ((hP j z hz).lt)), hD⟩, Nat.le_trans hS.1 hz, fun q h1 h2 => (hk q (Nat.lt_of_lt_of_le h1 hS.1)).trans (hS.2.1 q h1 h2)⟩
end GTH
/-- what a walk of a method that may throw stands on -/
def cxtT (p : Program) (l : Launch) (s : State) (m : MethodId) (args : Array Value) (meth : Method) (c : Code) (bytes : ByteArray) (ret : Option FieldType) (maxL : Nat) (own : String) (ws : List Cond) (G : GT) (A : Nat → Prop) : Prop :=
  cxt p s m args meth c bytes ret maxL own ws G A ∧ l.stackTraces = false ∧ (∀ x ∈ c.exceptionTable.toList, False) ∧ gT G s ∧ gZ A s s.heap
