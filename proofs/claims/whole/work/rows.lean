section
/-! ===== BEGIN words of one list among another's, by their places ===== -/
theorem goodIn_r {big : List Cond} (ws : List Cond) (ps : List Nat) (hp : ws = ps.filterMap (fun i => big[i]?)) (h : ws.all goodWord = true) : GoodIn big ws := by
  intro w hw
  have h1 := List.all_eq_true.mp h w hw
  rw [hp] at hw
  obtain ⟨i, -, hi⟩ := List.mem_filterMap.mp hw
  have hm : w ∈ big := by first | exact List.mem_of_getElem? hi | exact List.getElem?_mem hi
  exact ⟨hm, good_of_word h1⟩
theorem goodIn_app {big a b : List Cond} (ha : GoodIn big a) (hb : GoodIn big b) : GoodIn big (a ++ b) := fun w h => (List.mem_append.mp h).elim (ha w) (hb w)
theorem goodIn_ca {big a b : List Cond} {c : Cond} (ha : GoodIn big (c :: a)) (hb : GoodIn big b) : GoodIn big (c :: (a ++ b)) := fun w h => (List.mem_cons.mp h).elim (fun e => ha w (List.mem_cons.mpr (Or.inl e))) (fun h => (List.mem_append.mp h).elim (fun h => ha w (List.mem_cons.mpr (Or.inr h))) (hb w))
theorem goodIn_sub {big ws : List Cond} (hm : ∀ w ∈ ws, w ∈ big) (h : ws.all goodWord = true) : GoodIn big ws := fun w hw => ⟨hm w hw, good_of_word (List.all_eq_true.mp h w hw)⟩
/-! ===== END ===== -/
/-! ===== BEGIN exceptions that leave a method, and their catching by the caller (launches without stack traces) ===== -/
section VXA
/-! The laws vx_back, vx_callV, vx_callS, vx_callSW, vx_throw0, vx_throwS follow proofs of the library, with one case more: JvmDerived/Free/Laws.lean (Back.of_free), Shelf42/LK1.lean (callV, callS), Shelf/KitTraced.lean (throwNew0V, throwNewS). -/
/-- where a method has thrown q: the class by its name, the cell, what was written, the world -/
def vx_T (XC : String → State → State → Prop) (st : State) (q : Addr) (t : State) (mc ms : Nat) (free : Addr → Prop) : Prop :=
  ∃ (E : String) (ce : Cell) (L : List Loc), XC E st t ∧ t.heap[q]? = some ce ∧ ce.vm = .none ∧ st.vm.findClass E = some ce.cls ∧ st.WarmedH t.vm ∧ st.sameButNew ({ t with vm := st.vm } : State) L mc ms ∧ ∀ z ∈ L, free z.base
def vx_Q (Qc : Array Value → State → Outcome → State → Prop) (XC : String → State → State → Prop) (mc ms : Nat) (free : Addr → Prop) : Array Value → State → Outcome → State → Prop := fun a st o t =>
  (Qc a st o t ∧ ∃ L, FrameEnd st o t L mc ms ∧ ∀ q ∈ L, free q.base) ∨ ∃ q, o = .threw q ∧ vx_T XC st q t mc ms free
/-- a callee that returns or throws -/
def vx_Met (l : Launch) (y : MethodName) (ws : List Cond) (rm : Room) (Pc : Array Value → State → Prop) (Qc : Array Value → State → Outcome → State → Prop) (XC : String → State → State → Prop) (mc ms : Nat) (free : Addr → Prop) : Prop :=
  MetFree l y (headSpec ws rm) Pc (fun _ _ _ _ _ => True) (vx_Q Qc XC mc ms free)
def vx_Post (XC : String → State → State → Prop) (mc ms : Nat) (free : Addr → Prop) : Pt → Array Value → Addr → Pt → Prop := fun A a q B =>
  ∃ (g : JFrame) (mk : MethodId) (t : State) (L : List Loc) (E : String) (ce : Cell), B.U.heap = t.heap ∧ B.U.vm = t.vm ∧ XC E (A.U.calling g mk a) t ∧ t.heap[q]? = some ce ∧ ce.vm = .none ∧ A.U.vm.findClass E = some ce.cls ∧ B.locs = A.locs ++ L ∧ (∀ z ∈ L, free z.base) ∧ B.cells = A.cells + mc ∧ B.slots = A.slots + ms
def vx_Back (l : Launch) (R : Room) (p : Program) (e : Env) (below : List Frame) (s : State) (sargs : Array Value) (y : MethodName) (len W9 : Nat)
    (Pre : Pt → Array Value → Prop) (Post : Pt → Array Value → Option Value → Pt → Prop) (PostX : Pt → Array Value → Addr → Pt → Prop) : Prop :=
  ∀ (m : MethodId) (meth : Method) (c : Code) (A : Pt) (g : JFrame) (ig : Instr) (mk : MethodId) (a : Array Value),
    Stand p l e R s m sargs below meth c A.U A.locs A.cells A.slots → g.method = m → g.locals.size = c.maxLocals → decode c.code g.pc = .ok (ig, len) →
    2 * g.monitorRoom + (g.stack.map fun v => v.category).sum ≤ W9 → A.U.methodNamed? y = some mk → Pre A a →
    (∃ (v : Option Value) (B : Pt), Stand p l e R s m sargs below meth c B.U B.locs B.cells B.slots ∧ Post A a v B ∧
      Steps p.tables e below (doInvoke e (A.U.setTop g) [] mk a).1 (B.U.setTop { g with pc := g.pc + len, stack := v.toList ++ g.stack })) ∨
    (∃ (q : Addr) (B : Pt), Stand p l e R s m sargs below meth c B.U B.locs B.cells B.slots ∧ PostX A a q B ∧
      Steps p.tables e below (doInvoke e (A.U.setTop g) [] mk a).1 ((B.U.setTop g).pushFrame (.throwing q)))
section Payer
variable {l : Launch} {R : Room} {p : Program} {e : Env} {below : List Frame} {s : State} {sargs : Array Value} {y : MethodName} {len W9 : Nat}
theorem vx_back {ws : List Cond} {rm : Room} {Pc : Array Value → State → Prop} {Qc : Array Value → State → Outcome → State → Prop} {XC : String → State → State → Prop} {mc ms : Nat} {free : Addr → Prop} {bytes : ByteArray} {maxL : Nat} {ret : Option FieldType}
    (hM : vx_Met l y ws rm Pc Qc XC mc ms free) (hblind : FrameBlind Pc) (hrc : rm.cells = mc) (hrs : rm.slots = ms)
    (hframes : rm.frames + 1 ≤ R.frames) (hlocals : W9 + (maxL + 11) + rm.locals ≤ R.locals)
    (hws : ∀ w ∈ ws, ∀ a' U, s.WarmedH U.vm → w.before a' U = true) (hcode : Cond.code y bytes maxL ret ∈ ws) (hinit : ∀ a' U, s.WarmedH U.vm → (Cond.initialized y.cls).before a' U = true) :
    vx_Back l R p e below s sargs y len W9 (PreOf R mc ms Pc) (PostOf Qc mc ms free) (vx_Post XC mc ms free) := by
  intro m meth c A g ig mk a X hg hsize hdg hW hn hp
  have h1 : (headSpec ws rm).pre.before a A.U = true := atoms_intro fun w hw => hws w hw _ _ X.warmed
  have h2 : (Cond.code y bytes maxL ret).before a A.U = true := hws _ hcode _ _ X.warmed
  have h3 : (Cond.initialized y.cls).before a A.U = true := hinit _ _ X.warmed
  have h4 : A.cells + (headSpec ws rm).room.cells ≤ R.cells := by rw [show (headSpec ws rm).room.cells = mc from hrc]; exact hp.1
  have h5 : A.slots + (headSpec ws rm).room.slots ≤ R.slots := by rw [show (headSpec ws rm).room.slots = ms from hrs]; exact hp.2.1
  have hPc : Pc a (A.U.calling g mk a) := hblind _ _ _ _ hp.2.2
  obtain ⟨U, Ls, c0, s0⟩ := A
  dsimp only [Pt.U, Pt.locs, Pt.cells, Pt.slots] at h1 h2 h3 h4 h5 X hn hPc ⊢
  obtain ⟨methY, cY, hmY, hcY, -, hlY, -, -, -, -⟩ := Cond.code_spec hn h2
  obtain ⟨kY, hkY, -⟩ := className_of_methodNamed hn
  have hinitY : kY.init = .initialized := Cond.initialized_spec (findClass_of_methodNamed hn) hkY h3
  have h : At U g.method c below := by rw [hg]; exact X.here
  have hlocals9 : W9 + (maxL + 11) + (headSpec ws rm).room.locals ≤ R.locals := hlocals
  have happ : (headSpec ws rm).appliesLoose y e.platform (U.calling g mk a) = true :=
    Spec.appliesLoose_calling (g := g) h hdg hn hkY hinitY
      (X.room_calling (g := g) (R' := (headSpec ws rm).room) hsize hmY hcY hframes (by rw [hlY]; omega) h4 h5) h1
  obtain ⟨mid, hmid⟩ := h.above
  have hfr : (U.setTop g).frames = (.java g :: mid) ++ below := by rw [State.frames_setTop' g h.top, hmid]; rfl
  obtain ⟨o, s₂, hsteps, -, hend, hq⟩ := Steps.callFree hM p X.admits X.cas X.clock (acts := []) hfr happ hPc trivial
  have hq' : vx_Q Qc XC mc ms free a (U.calling g mk a) o s₂ := hq
  rw [State.frames_setTop' g h.top] at hend
  obtain ⟨g₀, hg0⟩ := Option.isSome_iff_exists.mp h.top
  obtain ⟨r, hr⟩ := State.topJava?_eq_some.mp hg0
  have hr' : (({ U with heap := s₂.heap, slotsUsed := s₂.slotsUsed } : State).setVm s₂.vm).frames = .java g₀ :: r := hr
  rcases hq' with ⟨hqc, L, hfe, hL⟩ | ⟨q, rfl, E, ce, L, hx, hce, hcv, hcl, hW₂, hsm, hL⟩
  · obtain ⟨⟨v, rfl⟩, hW₂, e2, q2, q3, q4, q5, q6⟩ := id hfe
    have e3 : s₂ = ({ (U.calling g mk a).setFrames s₂.frames with heap := s₂.heap, slotsUsed := s₂.slotsUsed } : State).setVm s₂.vm := by
      have : s₂ = ({ s₂ with vm := (U.calling g mk a).vm } : State).setVm s₂.vm := rfl
      rw [e2] at this
      exact this
    obtain ⟨c₂, i₂, len₂, hc₂, hd₂, hf₂⟩ := hend
    have hW' : U.WarmedH s₂.vm := hW₂
    have hcc : c₂ = c := by
      have h1 : s₂.code? g.method = U.code? g.method := by
        rw [State.code?_eq, State.code?_eq, hW'.alike.method?]
      exact Option.some.inj (hc₂.symm.trans (h1.trans h.code))
    subst hcc
    have hlen : len₂ = len := by rw [hdg] at hd₂; cases hd₂; rfl
    subst hlen
    have hs₂ : s₂ = (({ U with heap := s₂.heap, slotsUsed := s₂.slotsUsed } : State).setVm s₂.vm).setTop { g with pc := g.pc + len₂, stack := v.toList ++ g.stack } := by
      refine e3.trans ?_
      rw [hf₂, State.calling_eq h.top, State.setFrames_setFrames, State.setTop_of_frames _ hr', hr]
      rfl
    have hsame : U.sameButNew ({ U with heap := s₂.heap, slotsUsed := s₂.slotsUsed } : State) L mc ms := by
      refine ⟨?_, q2, q3, q4, q5, q6⟩
      obtain ⟨t, ht, -⟩ := State.frames_cons hr
      show ({ U with heap := s₂.heap, slotsUsed := s₂.slotsUsed } : State) = { U.setFrames U.frames with heap := s₂.heap, slotsUsed := s₂.slotsUsed }
      rw [State.setFrames_self ht]
    subst hg
    refine Or.inl ⟨v, ⟨(({ U with heap := s₂.heap, slotsUsed := s₂.slotsUsed } : State).setVm s₂.vm), Ls ++ L, c0 + mc, s0 + ms⟩,
      ⟨X.admits, X.cas, X.clock, X.frames, X.room, X.hears, X.method, X.code, (X.here.setHeapUsed s₂.heap s₂.slotsUsed).setVm hW'.alike, X.tail, State.WarmedH.trans X.warmed hW', X.limits, X.bytes, X.same.trans (hsame.setVm s.vm)⟩,
      ⟨g, mk, s₂, L, rfl, rfl, hqc, rfl, hL, rfl, rfl⟩, ?_⟩
    show Steps p.tables e below _ ((({ U with heap := s₂.heap, slotsUsed := s₂.slotsUsed } : State).setVm s₂.vm).setTop { g with pc := g.pc + len₂, stack := v.toList ++ g.stack })
    rw [← hs₂]
    exact hsteps
  · obtain ⟨e2, q2, q3, q4, q5, q6⟩ := id hsm
    have e3 : s₂ = ({ (U.calling g mk a).setFrames s₂.frames with heap := s₂.heap, slotsUsed := s₂.slotsUsed } : State).setVm s₂.vm := by
      have : s₂ = ({ s₂ with vm := (U.calling g mk a).vm } : State).setVm s₂.vm := rfl
      rw [e2] at this
      exact this
    have hf₂ : s₂.frames = .throwing q :: .java g :: U.frames.tail := hend
    have hW' : U.WarmedH s₂.vm := hW₂
    have hs₂ : s₂ = ((({ U with heap := s₂.heap, slotsUsed := s₂.slotsUsed } : State).setVm s₂.vm).setTop g).pushFrame (.throwing q) := by
      refine e3.trans ?_
      rw [hf₂, State.calling_eq h.top, State.setFrames_setFrames, State.pushFrame, State.frames_setTop _ hr', State.setTop_of_frames _ hr', State.setFrames_setFrames, hr]
      rfl
    have hsame : U.sameButNew ({ U with heap := s₂.heap, slotsUsed := s₂.slotsUsed } : State) L mc ms := by
      refine ⟨?_, q2, q3, q4, q5, q6⟩
      obtain ⟨t, ht, -⟩ := State.frames_cons hr
      show ({ U with heap := s₂.heap, slotsUsed := s₂.slotsUsed } : State) = { U.setFrames U.frames with heap := s₂.heap, slotsUsed := s₂.slotsUsed }
      rw [State.setFrames_self ht]
    subst hg
    refine Or.inr ⟨q, ⟨(({ U with heap := s₂.heap, slotsUsed := s₂.slotsUsed } : State).setVm s₂.vm), Ls ++ L, c0 + mc, s0 + ms⟩,
      ⟨X.admits, X.cas, X.clock, X.frames, X.room, X.hears, X.method, X.code, (X.here.setHeapUsed s₂.heap s₂.slotsUsed).setVm hW'.alike, X.tail, State.WarmedH.trans X.warmed hW', X.limits, X.bytes, X.same.trans (hsame.setVm s.vm)⟩,
      ⟨g, mk, s₂, L, E, ce, rfl, rfl, hx, hce, hcv, hcl, rfl, hL, rfl, rfl⟩, ?_⟩
    show Steps p.tables e below _ (((({ U with heap := s₂.heap, slotsUsed := s₂.slotsUsed } : State).setVm s₂.vm).setTop g).pushFrame (.throwing q))
    rw [← hs₂]
    exact hsteps
end Payer
section Calls
variable {p : Program} {l : Launch} {e : Env} {R : Room} {s : State} {m : MethodId} {args : Array Value} {below : List Frame} {meth : Method} {c : Code} {T : State} {locs : List Loc} {cells slots : Nat}
theorem vx_callV (X : Stand p l e R s m args below meth c T locs cells slots) (hexec : p.tables.exec = Jvm.exec) {own C : String} {index : Nat} {y : MethodName} {bytes : ByteArray} {maxL : Nat} {ret : Option FieldType}
    (hown : s.vm.findClass own = some m.cls) (hlink : (Cond.methodLink own index y).before args s = true) (hinst : (Cond.instanceMethod y).before args s = true) (hsel : (Cond.selects C y y).before args s = true)
    (hcode : (Cond.code y bytes maxL ret).before args s = true) (hy : y.cls ≠ "java/lang/invoke/MethodHandle" ∧ y.cls ≠ "java/lang/invoke/VarHandle")
    {W9 : Nat} {Pre : Pt → Array Value → Prop} {Post : Pt → Array Value → Option Value → Pt → Prop} {PostX : Pt → Array Value → Addr → Pt → Prop} (hK : vx_Back l R p e below s args y 3 W9 Pre Post PostX)
    {b : Addr} {cellB : Cell} (hcell : T.heap[b]? = some cellB) (hobj : cellB.vm.isStatics = false) (hcls : s.vm.findClass C = some cellB.cls)
    {g : JFrame} (hg : g.method = m) (hsize : g.locals.size = c.maxLocals) {argsL rest : List Value} (hlen : ∀ sig, parseMethodDescriptor y.desc = some sig → argsL.length = sig.parameters.length)
    (hstack : g.stack = argsL.reverse ++ .ref b :: rest) (hW : 2 * g.monitorRoom + (rest.map fun v => v.category).sum ≤ W9) (hdg : decode c.code g.pc = .ok (.invokevirtual index, 3))
    (hpre : ∀ vm₁, s.WarmedH vm₁ → Pre ⟨T.setVm vm₁, locs, cells, slots⟩ (Value.ref b :: argsL).toArray) :
    (∃ (v : Option Value) (vm₁ : Vm) (B : Pt), s.WarmedH vm₁ ∧ Stand p l e R s m args below meth c B.U B.locs B.cells B.slots ∧ Post ⟨T.setVm vm₁, locs, cells, slots⟩ (Value.ref b :: argsL).toArray v B ∧
      ∀ target, Steps p.tables e below (B.U.setTop { g with pc := g.pc + 3, stack := v.toList ++ rest }) target → Steps p.tables e below (T.setTop g) target) ∨
    (∃ (q : Addr) (vm₁ : Vm) (B : Pt), s.WarmedH vm₁ ∧ Stand p l e R s m args below meth c B.U B.locs B.cells B.slots ∧ PostX ⟨T.setVm vm₁, locs, cells, slots⟩ (Value.ref b :: argsL).toArray q B ∧
      Steps p.tables e below (T.setTop g) ((B.U.setTop { g with stack := rest }).pushFrame (.throwing q))) := by
  obtain ⟨mk, methM, hnamed, hmethM, hstM, habM⟩ := Cond.instanceMethod_spec hinst
  obtain ⟨methM', cM, hmethM', -, -, -, -, -, -, hsigM⟩ := Cond.code_spec hnamed hcode
  cases hmethM.symm.trans hmethM'
  obtain ⟨c2, r2, m2, q1, q2, q3, q4, kP, hkP, hkPi⟩ := Cond.selects_spec hsel
  cases hcls.symm.trans q1
  cases (State.methodFound?_of_named hnamed hy).symm.trans q2
  cases hnamed.symm.trans q3
  have hselP : selectMethod e.platform s.vm cellB.cls mk = .method mk := by rw [Launch.admits_selectMethod X.admits]; exact q4
  obtain ⟨vm₁, X₁, hstep₁⟩ := X.invokevirtual hexec hown hlink hnamed hmethM hstM hkP hkPi hy (a := b) (cell := cellB) hcell
    (fun z h => by rw [h] at hobj; cases hobj) hselP hmethM habM hkP hkPi (g := g) hg (argsL := argsL) (rest := rest) (hlen _ hsigM) hstack hdg
  rcases hK m meth c ⟨T.setVm vm₁, locs, cells, slots⟩ { g with stack := rest } (.invokevirtual index) mk (Value.ref b :: argsL).toArray X₁ hg hsize hdg hW (X₁.named hnamed) (hpre vm₁ X₁.warmed) with ⟨v, B, X', hpost, hsteps⟩ | ⟨q, B, X', hpost, hsteps⟩
  · exact Or.inl ⟨v, vm₁, B, X₁.warmed, X', hpost, fun target h => hstep₁ _ fun acts => by rw [doInvoke_state]; exact hsteps.trans h⟩
  · exact Or.inr ⟨q, vm₁, B, X₁.warmed, X', hpost, hstep₁ _ fun acts => by rw [doInvoke_state]; exact hsteps⟩
theorem vx_callS (X : Stand p l e R s m args below meth c T locs cells slots) (hexec : p.tables.exec = Jvm.exec) {own : String} {index : Nat} {y : MethodName} {bytes : ByteArray} {maxL : Nat} {ret : Option FieldType}
    (hown : s.vm.findClass own = some m.cls) (hlink : (Cond.methodLink own index y).before args s = true) (hstat : (Cond.static y).before args s = true) (hinit : (Cond.initialized y.cls).before args s = true)
    (hcode : (Cond.code y bytes maxL ret).before args s = true) (hy : y.cls ≠ "java/lang/invoke/MethodHandle" ∧ y.cls ≠ "java/lang/invoke/VarHandle")
    {W9 : Nat} {Pre : Pt → Array Value → Prop} {Post : Pt → Array Value → Option Value → Pt → Prop} {PostX : Pt → Array Value → Addr → Pt → Prop} (hK : vx_Back l R p e below s args y 3 W9 Pre Post PostX)
    {g : JFrame} (hg : g.method = m) (hsize : g.locals.size = c.maxLocals) {argsL rest : List Value} (hlen : ∀ sig, parseMethodDescriptor y.desc = some sig → argsL.length = sig.parameters.length)
    (hstack : g.stack = argsL.reverse ++ rest) (hW : 2 * g.monitorRoom + (rest.map fun v => v.category).sum ≤ W9) (hdg : decode c.code g.pc = .ok (.invokestatic index, 3))
    (hpre : ∀ vm₁, s.WarmedH vm₁ → Pre ⟨T.setVm vm₁, locs, cells, slots⟩ argsL.toArray) :
    (∃ (v : Option Value) (vm₁ : Vm) (B : Pt), s.WarmedH vm₁ ∧ Stand p l e R s m args below meth c B.U B.locs B.cells B.slots ∧ Post ⟨T.setVm vm₁, locs, cells, slots⟩ argsL.toArray v B ∧
      ∀ target, Steps p.tables e below (B.U.setTop { g with pc := g.pc + 3, stack := v.toList ++ rest }) target → Steps p.tables e below (T.setTop g) target) ∨
    (∃ (q : Addr) (vm₁ : Vm) (B : Pt), s.WarmedH vm₁ ∧ Stand p l e R s m args below meth c B.U B.locs B.cells B.slots ∧ PostX ⟨T.setVm vm₁, locs, cells, slots⟩ argsL.toArray q B ∧
      Steps p.tables e below (T.setTop g) ((B.U.setTop { g with stack := rest }).pushFrame (.throwing q))) := by
  obtain ⟨mk, hnamed⟩ := Cond.code_named hcode
  obtain ⟨methM, cM, hmethM, -, -, -, -, -, -, hsigM⟩ := Cond.code_spec hnamed hcode
  have hstatic : methM.isStatic = true := Cond.static_spec hnamed hmethM hstat
  obtain ⟨kP, hkP, -⟩ := className_of_methodNamed hnamed
  have hinitP : kP.init = .initialized := Cond.initialized_spec (findClass_of_methodNamed hnamed) hkP hinit
  obtain ⟨vm₁, X₁, hstep₁⟩ := X.invokestatic hexec hown hlink hnamed hmethM hstatic hkP hinitP hy (g := g) hg (argsL := argsL) (rest := rest) (hlen _ hsigM) hstack hdg
  rcases hK m meth c ⟨T.setVm vm₁, locs, cells, slots⟩ { g with stack := rest } (.invokestatic index) mk argsL.toArray X₁ hg hsize hdg hW (X₁.named hnamed) (hpre vm₁ X₁.warmed) with ⟨v, B, X', hpost, hsteps⟩ | ⟨q, B, X', hpost, hsteps⟩
  · exact Or.inl ⟨v, vm₁, B, X₁.warmed, X', hpost, fun target h => hstep₁ _ fun acts => by rw [doInvoke_state]; exact hsteps.trans h⟩
  · exact Or.inr ⟨q, vm₁, B, X₁.warmed, X', hpost, hstep₁ _ fun acts => by rw [doInvoke_state]; exact hsteps⟩
end Calls
theorem vx_cls {s : State} {T : State} {vm₁ : Vm} {E : String} {k : ClassId} (hW : s.WarmedH vm₁) (h : (T.setVm vm₁).vm.findClass E = some k) : s.vm.findClass E = some k := by
  have h1 : vm₁.findClass E = some k := h
  rw [hW.alike.findClass] at h1
  exact h1
/-- the method's frame g, with q thrown over it -/
def vx_W (p : Program) (l : Launch) (e : Env) (R : Room) (s : State) (m : MethodId) (args : Array Value) (below : List Frame) (meth : Method) (c : Code) (H : Heap) (locs : List Loc) (cells slots : Nat) (Q : State → Prop) (g : JFrame) (q : Addr) : Prop :=
  ∀ T : State, T.heap = H → Stand p l e R s m args below meth c T locs cells slots → ∃ t, Steps p.tables e below ((T.setTop g).pushFrame (.throwing q)) t ∧ Q t
def vx_Run (p : Program) (l : Launch) (e : Env) (R : Room) (s : State) (m : MethodId) (args : Array Value) (below : List Frame) (meth : Method) (c : Code) (H : Heap) (locs : List Loc) (cells slots mc ms : Nat) (g : JFrame) (rest : List Value) (Qa : State → Outcome → State → Prop) (XC : String → State → State → Prop) (free : Addr → Prop) : Prop :=
  ∀ T : State, T.heap = H → Stand p l e R s m args below meth c T locs cells slots →
    (∃ (v : Option Value) (st₀ t T' : State) (L : List Loc), st₀.heap = H ∧ Stand p l e R s m args below meth c T' (locs ++ L) (cells + mc) (slots + ms) ∧ (∀ q ∈ L, free q.base) ∧ T'.heap = t.heap ∧ T'.vm = t.vm ∧ Qa st₀ (.returned v) t ∧
      Goes p e below T g T' { g with pc := g.pc + 3, stack := v.toList ++ rest }) ∨
    (∃ (q : Addr) (st₀ t T' : State) (L : List Loc) (E : String) (ce : Cell), st₀.heap = H ∧ Stand p l e R s m args below meth c T' (locs ++ L) (cells + mc) (slots + ms) ∧ (∀ z ∈ L, free z.base) ∧ T'.heap = t.heap ∧ T'.vm = t.vm ∧ XC E st₀ t ∧ t.heap[q]? = some ce ∧ ce.vm = .none ∧ s.vm.findClass E = some ce.cls ∧
      Steps p.tables e below (T.setTop g) ((T'.setTop { g with stack := rest }).pushFrame (.throwing q)))
def vx_X {S : Type} (px : S → Prop) (B : String → S → State → Prop) (A : Nat → Prop) : String → State → State → Prop := fun E st t => ∃ u : S, px u ∧ B E u t ∧ va_F A st t
section Runs
variable {p : Program} {l : Launch} {e : Env} {R : Room} {s : State} {m : MethodId} {args : Array Value} {below : List Frame} {meth : Method} {c : Code} {H : Heap} {locs : List Loc} {cells slots : Nat}
variable {y : MethodName} {bytes cc : ByteArray} {maxL nL mc ms n index : Nat} {ret : Option FieldType} {ws : List Cond} {rm : Room} {Pc : Array Value → State → Prop} {Qc : Array Value → State → Outcome → State → Prop} {XC : String → State → State → Prop} {free : Addr → Prop} {Ts : List Cond} {own C : String} {b : Addr} {As rest : List Value} {g : JFrame}
theorem vx_callBack (cb : CallB R s args own index y bytes maxL ret ws rm mc ms n) (hM : vx_Met l y ws rm Pc Qc XC mc ms free) (hbl : FrameBlind Pc) : vx_Back l R p e below s args y 3 8 (PreOf R mc ms Pc) (PostOf Qc mc ms free) (vx_Post XC mc ms free) := by
  obtain ⟨hrc, hrs, hfr, hlo, hws, hcw, -, hini, -⟩ := cb
  exact vx_back (bytes := bytes) (maxL := maxL) (ret := ret) hM hbl hrc hrs hfr hlo hws hcw (fun a' U hW => word_at hW (Or.inl (by first | rfl | simp [Cond.onTables, Cond.keeps, Cond.steady])) hini)
theorem vx_runV (S : CallFix p m c cc nL s args Ts own) (hM : vx_Met l y ws rm Pc Qc XC mc ms free) (cw : CallW R s args own C index y bytes maxL ret ws rm mc ms n) (hp : PreV s H C b Pc As)
    (hg : g.method = m) (hn : As.length = n) (hsize : g.locals.size = nL) (hstack : g.stack = As.reverse ++ .ref b :: rest) (hW : 2 * g.monitorRoom + (rest.map fun v => v.category).sum ≤ 8) (hdg : decode cc g.pc = .ok (.invokevirtual index, 3)) (hf : cells + mc ≤ R.cells ∧ slots + ms ≤ R.slots) :
    vx_Run p l e R s m args below meth c H locs cells slots mc ms g rest (Qc (Value.ref b :: As).toArray) XC free := by
  have hK : vx_Back l R p e below s args y 3 8 (PreOf R mc ms Pc) (PostOf Qc mc ms free) (vx_Post XC mc ms free) := vx_callBack cw.1 hM hp.1
  obtain ⟨⟨-, -, -, -, -, -, hcode, -, hy, hlen, hl⟩, hin, hse⟩ := cw
  obtain ⟨hx, hb, hml, ho, -⟩ := S
  obtain ⟨-, ⟨cellB, hcB, hoB, hclB⟩, hPc⟩ := hp
  intro T hT X
  rcases vx_callV X hx (C := C) (bytes := bytes) (maxL := maxL) (ret := ret) ho hl hin hse hcode hy hK (by rw [hT]; exact hcB) hoB hclB hg (hsize.trans hml.symm) (argsL := As) (rest := rest) (fun sig h => hn.trans (hlen sig h)) hstack hW (by rw [hb]; exact hdg)
    (fun vm₁ hW₁ => ⟨hf.1, hf.2, hPc (T.setVm vm₁) hT hW₁⟩) with ⟨v, vm₁, ⟨U', l2, c2, s2⟩, hW₁, X', ⟨g', mk, t, L, e1, e2, hq, h1, hL, h2, h3⟩, st⟩ | ⟨q, vm₁, ⟨U', l2, c2, s2⟩, hW₁, X', ⟨g', mk, t, L, E, ce, e1, e2, hq, hce, hcv, hcl, h1, hL, h2, h3⟩, st⟩
  · dsimp only [Pt.U, Pt.locs, Pt.cells, Pt.slots] at X' e1 e2 h1 h2 h3 st
    subst h1; subst h2; subst h3
    exact Or.inl ⟨v, (T.setVm vm₁).calling g' mk (Value.ref b :: As).toArray, t, U', L, hT, X', hL, e1, e2, hq, st⟩
  · dsimp only [Pt.U, Pt.locs, Pt.cells, Pt.slots] at X' e1 e2 h1 h2 h3 st hcl
    subst h1; subst h2; subst h3
    exact Or.inr ⟨q, (T.setVm vm₁).calling g' mk (Value.ref b :: As).toArray, t, U', L, E, ce, hT, X', hL, e1, e2, hq, hce, hcv, vx_cls hW₁ hcl, st⟩
theorem vx_runS (S : CallFix p m c cc nL s args Ts own) (hM : vx_Met l y ws rm Pc Qc XC mc ms free) (cw : CallB R s args own index y bytes maxL ret ws rm mc ms n ∧ (Cond.static y).before args s = true) (hp : PreS s H Pc As)
    (hg : g.method = m) (hn : As.length = n) (hsize : g.locals.size = nL) (hstack : g.stack = As.reverse ++ rest) (hW : 2 * g.monitorRoom + (rest.map fun v => v.category).sum ≤ 8) (hdg : decode cc g.pc = .ok (.invokestatic index, 3)) (hf : cells + mc ≤ R.cells ∧ slots + ms ≤ R.slots) :
    vx_Run p l e R s m args below meth c H locs cells slots mc ms g rest (Qc As.toArray) XC free := by
  have hK : vx_Back l R p e below s args y 3 8 (PreOf R mc ms Pc) (PostOf Qc mc ms free) (vx_Post XC mc ms free) := vx_callBack cw.1 hM hp.1
  obtain ⟨⟨-, -, -, -, -, -, hcode, hini, hy, hlen, hl⟩, hstt⟩ := cw
  obtain ⟨hx, hb, hml, ho, -⟩ := S
  intro T hT X
  rcases vx_callS X hx (bytes := bytes) (maxL := maxL) (ret := ret) ho hl hstt hini hcode hy hK hg (hsize.trans hml.symm) (argsL := As) (rest := rest) (fun sig h => hn.trans (hlen sig h)) hstack hW (by rw [hb]; exact hdg)
    (fun vm₁ hW₁ => ⟨hf.1, hf.2, hp.2 (T.setVm vm₁) hT hW₁⟩) with ⟨v, vm₁, ⟨U', l2, c2, s2⟩, hW₁, X', ⟨g', mk, t, L, e1, e2, hq, h1, hL, h2, h3⟩, st⟩ | ⟨q, vm₁, ⟨U', l2, c2, s2⟩, hW₁, X', ⟨g', mk, t, L, E, ce, e1, e2, hq, hce, hcv, hcl, h1, hL, h2, h3⟩, st⟩
  · dsimp only [Pt.U, Pt.locs, Pt.cells, Pt.slots] at X' e1 e2 h1 h2 h3 st
    subst h1; subst h2; subst h3
    exact Or.inl ⟨v, (T.setVm vm₁).calling g' mk As.toArray, t, U', L, hT, X', hL, e1, e2, hq, st⟩
  · dsimp only [Pt.U, Pt.locs, Pt.cells, Pt.slots] at X' e1 e2 h1 h2 h3 st hcl
    subst h1; subst h2; subst h3
    exact Or.inr ⟨q, (T.setVm vm₁).calling g' mk As.toArray, t, U', L, E, ce, hT, X', hL, e1, e2, hq, hce, hcv, vx_cls hW₁ hcl, st⟩
end Runs
section Rows
variable {p : Program} {l : Launch} {e : Env} {R : Room} {s : State} {m : MethodId} {args : Array Value} {below : List Frame} {meth : Method} {c : Code} {H : Heap} {locs : List Loc} {cells slots : Nat} {Q : State → Prop}
variable {mc ms : Nat} {free : Addr → Prop} {A0 A1 : Nat → Prop} {H0 : Heap} {a : Array Value} {pc : Nat} {ls : Array Slot} {st0 rest : List Value}
theorem vx_keep {st₀ t T' : State} {L : List Loc} (h0 : st₀.heap = H) (e1 : T'.heap = t.heap) (hS : va_S A0 H0 H locs) (hA : ∀ q, q < H.size → A1 q → A0 q) (hf : ∀ q, free q → A0 q) (hL : ∀ q ∈ L, free q.base) (hF : va_F A1 st₀ t) :
    H.size ≤ T'.heap.size ∧ (∀ q : Nat, q < H.size → ¬ A1 q → T'.heap[q]? = H[q]?) ∧ va_S A0 H0 T'.heap (locs ++ L) := by
  obtain ⟨hz, hk⟩ := hF
  rw [h0] at hz hk
  exact ⟨by rw [e1]; exact hz, fun q h1 h2 => by rw [e1]; exact hk q h1 h2,
    ⟨Nat.le_trans hS.1 (by rw [e1]; exact hz), fun q h1 h2 => by rw [e1, hk q (Nat.lt_of_lt_of_le h1 hS.1) (fun z => h2 (hA q (Nat.lt_of_lt_of_le h1 hS.1) z))]; exact hS.2.1 q h1 h2, fun q hq => by
      rcases List.mem_append.mp hq with h | h
      · exact hS.2.2 q h
      · exact hf _ (hL q h)⟩⟩
theorem vx_calli {S SX : Type} {post : Int32 → S → Prop} {px : SX → Prop} {B : S → State → Prop} {BX : String → SX → State → Prop} {AX : Nat → Prop} (hr : vx_Run p l e R s m args below meth c H locs cells slots mc ms (F0 m pc ls st0) rest (va_Qi post B A1 a) (vx_X px BX AX) free) (hS : va_S A0 H0 H locs) (hA : ∀ q, q < H.size → A1 q → A0 q) (hf : ∀ q, free q → A0 q) (hAX : ∀ q, q < H.size → AX q → A0 q)
    (kx : ∀ (E : String) (ce : Cell) (q9 : Addr) (u : SX) (t : State) (H1 : Heap) (locs1 : List Loc), t.heap = H1 → s.vm.Alike t.vm → px u → BX E u t → H.size ≤ H1.size → (∀ q : Nat, q < H.size → ¬ AX q → H1[q]? = H[q]?) → va_S A0 H0 H1 locs1 → H1[q9]? = some ce → ce.vm = .none → s.vm.findClass E = some ce.cls → vx_W p l e R s m args below meth c H1 locs1 (cells + mc) (slots + ms) Q (F0 m pc ls rest) q9)
    (kk : ∀ (r : Int32) (u : S) (t : State) (H1 : Heap) (locs1 : List Loc), t.heap = H1 → s.vm.Alike t.vm → post r u → B u t → H.size ≤ H1.size → (∀ q : Nat, q < H.size → ¬ A1 q → H1[q]? = H[q]?) → va_S A0 H0 H1 locs1 → W p l e R s m args below meth c H1 locs1 (cells + mc) (slots + ms) Q (F0 m (pc + 3) ls (.int r :: rest))) : W p l e R s m args below meth c H locs cells slots Q (F0 m pc ls st0) := by
  intro T hT X
  rcases hr T hT X with ⟨v, st₀, t, T', L, h0, X', hL, e1, e2, ⟨⟨r, u, hv, hp, hb⟩, hF⟩, st⟩ | ⟨q, st₀, t, T', L, E, ce, h0, X', hL, e1, e2, ⟨u, hp, hb, hF⟩, hce, hcv, hcl, st⟩
  · cases hv
    obtain ⟨k1, k2, k3⟩ := vx_keep h0 e1 hS hA hf hL hF
    obtain ⟨t2, a1, b1⟩ := kk r u t T'.heap (locs ++ L) e1.symm (by rw [← e2]; exact X'.warmed.alike) hp hb k1 k2 k3 T' rfl X'
    exact ⟨t2, st t2 a1, b1⟩
  · obtain ⟨k1, k2, k3⟩ := vx_keep h0 e1 hS hAX hf hL hF
    obtain ⟨t2, a1, b1⟩ := kx E ce q u t T'.heap (locs ++ L) e1.symm (by rw [← e2]; exact X'.warmed.alike) hp hb k1 k2 k3 (by rw [e1]; exact hce) hcv hcl T' rfl X'
    exact ⟨t2, st.trans a1, b1⟩
theorem vx_calll {S SX : Type} {post : Int64 → S → Prop} {px : SX → Prop} {B : S → State → Prop} {BX : String → SX → State → Prop} {AX : Nat → Prop} (hr : vx_Run p l e R s m args below meth c H locs cells slots mc ms (F0 m pc ls st0) rest (va_Ql post B A1 a) (vx_X px BX AX) free) (hS : va_S A0 H0 H locs) (hA : ∀ q, q < H.size → A1 q → A0 q) (hf : ∀ q, free q → A0 q) (hAX : ∀ q, q < H.size → AX q → A0 q)
    (kx : ∀ (E : String) (ce : Cell) (q9 : Addr) (u : SX) (t : State) (H1 : Heap) (locs1 : List Loc), t.heap = H1 → s.vm.Alike t.vm → px u → BX E u t → H.size ≤ H1.size → (∀ q : Nat, q < H.size → ¬ AX q → H1[q]? = H[q]?) → va_S A0 H0 H1 locs1 → H1[q9]? = some ce → ce.vm = .none → s.vm.findClass E = some ce.cls → vx_W p l e R s m args below meth c H1 locs1 (cells + mc) (slots + ms) Q (F0 m pc ls rest) q9)
    (kk : ∀ (r : Int64) (u : S) (t : State) (H1 : Heap) (locs1 : List Loc), t.heap = H1 → s.vm.Alike t.vm → post r u → B u t → H.size ≤ H1.size → (∀ q : Nat, q < H.size → ¬ A1 q → H1[q]? = H[q]?) → va_S A0 H0 H1 locs1 → W p l e R s m args below meth c H1 locs1 (cells + mc) (slots + ms) Q (F0 m (pc + 3) ls (.long r :: rest))) : W p l e R s m args below meth c H locs cells slots Q (F0 m pc ls st0) := by
  intro T hT X
  rcases hr T hT X with ⟨v, st₀, t, T', L, h0, X', hL, e1, e2, ⟨⟨r, u, hv, hp, hb⟩, hF⟩, st⟩ | ⟨q, st₀, t, T', L, E, ce, h0, X', hL, e1, e2, ⟨u, hp, hb, hF⟩, hce, hcv, hcl, st⟩
  · cases hv
    obtain ⟨k1, k2, k3⟩ := vx_keep h0 e1 hS hA hf hL hF
    obtain ⟨t2, a1, b1⟩ := kk r u t T'.heap (locs ++ L) e1.symm (by rw [← e2]; exact X'.warmed.alike) hp hb k1 k2 k3 T' rfl X'
    exact ⟨t2, st t2 a1, b1⟩
  · obtain ⟨k1, k2, k3⟩ := vx_keep h0 e1 hS hAX hf hL hF
    obtain ⟨t2, a1, b1⟩ := kx E ce q u t T'.heap (locs ++ L) e1.symm (by rw [← e2]; exact X'.warmed.alike) hp hb k1 k2 k3 (by rw [e1]; exact hce) hcv hcl T' rfl X'
    exact ⟨t2, st.trans a1, b1⟩
theorem vx_callf {S SX : Type} {post : UInt32 → S → Prop} {px : SX → Prop} {B : S → State → Prop} {BX : String → SX → State → Prop} {AX : Nat → Prop} (hr : vx_Run p l e R s m args below meth c H locs cells slots mc ms (F0 m pc ls st0) rest (va_Qf post B A1 a) (vx_X px BX AX) free) (hS : va_S A0 H0 H locs) (hA : ∀ q, q < H.size → A1 q → A0 q) (hf : ∀ q, free q → A0 q) (hAX : ∀ q, q < H.size → AX q → A0 q)
    (kx : ∀ (E : String) (ce : Cell) (q9 : Addr) (u : SX) (t : State) (H1 : Heap) (locs1 : List Loc), t.heap = H1 → s.vm.Alike t.vm → px u → BX E u t → H.size ≤ H1.size → (∀ q : Nat, q < H.size → ¬ AX q → H1[q]? = H[q]?) → va_S A0 H0 H1 locs1 → H1[q9]? = some ce → ce.vm = .none → s.vm.findClass E = some ce.cls → vx_W p l e R s m args below meth c H1 locs1 (cells + mc) (slots + ms) Q (F0 m pc ls rest) q9)
    (kk : ∀ (r : UInt32) (u : S) (t : State) (H1 : Heap) (locs1 : List Loc), t.heap = H1 → s.vm.Alike t.vm → post r u → B u t → H.size ≤ H1.size → (∀ q : Nat, q < H.size → ¬ A1 q → H1[q]? = H[q]?) → va_S A0 H0 H1 locs1 → W p l e R s m args below meth c H1 locs1 (cells + mc) (slots + ms) Q (F0 m (pc + 3) ls (.float r :: rest))) : W p l e R s m args below meth c H locs cells slots Q (F0 m pc ls st0) := by
  intro T hT X
  rcases hr T hT X with ⟨v, st₀, t, T', L, h0, X', hL, e1, e2, ⟨⟨r, u, hv, hp, hb⟩, hF⟩, st⟩ | ⟨q, st₀, t, T', L, E, ce, h0, X', hL, e1, e2, ⟨u, hp, hb, hF⟩, hce, hcv, hcl, st⟩
  · cases hv
    obtain ⟨k1, k2, k3⟩ := vx_keep h0 e1 hS hA hf hL hF
    obtain ⟨t2, a1, b1⟩ := kk r u t T'.heap (locs ++ L) e1.symm (by rw [← e2]; exact X'.warmed.alike) hp hb k1 k2 k3 T' rfl X'
    exact ⟨t2, st t2 a1, b1⟩
  · obtain ⟨k1, k2, k3⟩ := vx_keep h0 e1 hS hAX hf hL hF
    obtain ⟨t2, a1, b1⟩ := kx E ce q u t T'.heap (locs ++ L) e1.symm (by rw [← e2]; exact X'.warmed.alike) hp hb k1 k2 k3 (by rw [e1]; exact hce) hcv hcl T' rfl X'
    exact ⟨t2, st.trans a1, b1⟩
theorem vx_calld {S SX : Type} {post : UInt64 → S → Prop} {px : SX → Prop} {B : S → State → Prop} {BX : String → SX → State → Prop} {AX : Nat → Prop} (hr : vx_Run p l e R s m args below meth c H locs cells slots mc ms (F0 m pc ls st0) rest (va_Qd post B A1 a) (vx_X px BX AX) free) (hS : va_S A0 H0 H locs) (hA : ∀ q, q < H.size → A1 q → A0 q) (hf : ∀ q, free q → A0 q) (hAX : ∀ q, q < H.size → AX q → A0 q)
    (kx : ∀ (E : String) (ce : Cell) (q9 : Addr) (u : SX) (t : State) (H1 : Heap) (locs1 : List Loc), t.heap = H1 → s.vm.Alike t.vm → px u → BX E u t → H.size ≤ H1.size → (∀ q : Nat, q < H.size → ¬ AX q → H1[q]? = H[q]?) → va_S A0 H0 H1 locs1 → H1[q9]? = some ce → ce.vm = .none → s.vm.findClass E = some ce.cls → vx_W p l e R s m args below meth c H1 locs1 (cells + mc) (slots + ms) Q (F0 m pc ls rest) q9)
    (kk : ∀ (r : UInt64) (u : S) (t : State) (H1 : Heap) (locs1 : List Loc), t.heap = H1 → s.vm.Alike t.vm → post r u → B u t → H.size ≤ H1.size → (∀ q : Nat, q < H.size → ¬ A1 q → H1[q]? = H[q]?) → va_S A0 H0 H1 locs1 → W p l e R s m args below meth c H1 locs1 (cells + mc) (slots + ms) Q (F0 m (pc + 3) ls (.double r :: rest))) : W p l e R s m args below meth c H locs cells slots Q (F0 m pc ls st0) := by
  intro T hT X
  rcases hr T hT X with ⟨v, st₀, t, T', L, h0, X', hL, e1, e2, ⟨⟨r, u, hv, hp, hb⟩, hF⟩, st⟩ | ⟨q, st₀, t, T', L, E, ce, h0, X', hL, e1, e2, ⟨u, hp, hb, hF⟩, hce, hcv, hcl, st⟩
  · cases hv
    obtain ⟨k1, k2, k3⟩ := vx_keep h0 e1 hS hA hf hL hF
    obtain ⟨t2, a1, b1⟩ := kk r u t T'.heap (locs ++ L) e1.symm (by rw [← e2]; exact X'.warmed.alike) hp hb k1 k2 k3 T' rfl X'
    exact ⟨t2, st t2 a1, b1⟩
  · obtain ⟨k1, k2, k3⟩ := vx_keep h0 e1 hS hAX hf hL hF
    obtain ⟨t2, a1, b1⟩ := kx E ce q u t T'.heap (locs ++ L) e1.symm (by rw [← e2]; exact X'.warmed.alike) hp hb k1 k2 k3 (by rw [e1]; exact hce) hcv hcl T' rfl X'
    exact ⟨t2, st.trans a1, b1⟩
theorem vx_callv {S SX : Type} {post : S → Prop} {px : SX → Prop} {B : S → State → Prop} {BX : String → SX → State → Prop} {AX : Nat → Prop} (hr : vx_Run p l e R s m args below meth c H locs cells slots mc ms (F0 m pc ls st0) rest (va_Qv post B A1 a) (vx_X px BX AX) free) (hS : va_S A0 H0 H locs) (hA : ∀ q, q < H.size → A1 q → A0 q) (hf : ∀ q, free q → A0 q) (hAX : ∀ q, q < H.size → AX q → A0 q)
    (kx : ∀ (E : String) (ce : Cell) (q9 : Addr) (u : SX) (t : State) (H1 : Heap) (locs1 : List Loc), t.heap = H1 → s.vm.Alike t.vm → px u → BX E u t → H.size ≤ H1.size → (∀ q : Nat, q < H.size → ¬ AX q → H1[q]? = H[q]?) → va_S A0 H0 H1 locs1 → H1[q9]? = some ce → ce.vm = .none → s.vm.findClass E = some ce.cls → vx_W p l e R s m args below meth c H1 locs1 (cells + mc) (slots + ms) Q (F0 m pc ls rest) q9)
    (kk : ∀ (u : S) (t : State) (H1 : Heap) (locs1 : List Loc), t.heap = H1 → s.vm.Alike t.vm → post u → B u t → H.size ≤ H1.size → (∀ q : Nat, q < H.size → ¬ A1 q → H1[q]? = H[q]?) → va_S A0 H0 H1 locs1 → W p l e R s m args below meth c H1 locs1 (cells + mc) (slots + ms) Q (F0 m (pc + 3) ls (rest))) : W p l e R s m args below meth c H locs cells slots Q (F0 m pc ls st0) := by
  intro T hT X
  rcases hr T hT X with ⟨v, st₀, t, T', L, h0, X', hL, e1, e2, ⟨⟨u, hv, hp, hb⟩, hF⟩, st⟩ | ⟨q, st₀, t, T', L, E, ce, h0, X', hL, e1, e2, ⟨u, hp, hb, hF⟩, hce, hcv, hcl, st⟩
  · cases hv
    obtain ⟨k1, k2, k3⟩ := vx_keep h0 e1 hS hA hf hL hF
    obtain ⟨t2, a1, b1⟩ := kk u t T'.heap (locs ++ L) e1.symm (by rw [← e2]; exact X'.warmed.alike) hp hb k1 k2 k3 T' rfl X'
    exact ⟨t2, st t2 a1, b1⟩
  · obtain ⟨k1, k2, k3⟩ := vx_keep h0 e1 hS hAX hf hL hF
    obtain ⟨t2, a1, b1⟩ := kx E ce q u t T'.heap (locs ++ L) e1.symm (by rw [← e2]; exact X'.warmed.alike) hp hb k1 k2 k3 (by rw [e1]; exact hce) hcv hcl T' rfl X'
    exact ⟨t2, st.trans a1, b1⟩
/-- caught by the row x of this method's table; the rows ahead don't take it -/
theorem vx_catch {own name : String} {E : String} {ce : Cell} {q : Addr} (hown : s.vm.findClass own = some m.cls) (pre : List ExceptionTableEntry) (x : ExceptionTableEntry) (suf : List ExceptionTableEntry) (hsplit : c.exceptionTable.toList = pre ++ x :: suf)
    (hpass : ∀ z ∈ pre, covers z pc = false ∨ (z.catchType ≠ 0 ∧ ∃ nm : String, (Cond.classLink own z.catchType nm).before args s = true ∧ va_Nc E nm s)) (hx : covers x pc = true) (h0 : x.catchType ≠ 0)
    (hlink : (Cond.classLink own x.catchType name).before args s = true) (hcast : (Cond.castable E name).before args s = true) (hcell : H[q]? = some ce) (hv : ce.vm = .none) (hcl : s.vm.findClass E = some ce.cls)
    (kk : W p l e R s m args below meth c H locs cells slots Q (F0 m x.handlerPc ls [.ref q])) : vx_W p l e R s m args below meth c H locs cells slots Q (F0 m pc ls rest) q := by
  intro T hT X
  have hpl : e.platform.magicAccessors = ({} : Platform).magicAccessors := by rw [X.admits.platform]
  obtain ⟨c3, c4, hc3, hc4, hasg⟩ := Cond.castable_spec hcast
  cases Option.some.inj (hc3.symm.trans hcl)
  obtain ⟨c5, hc5, hcl5⟩ := Cond.classLink_spec hown hlink e.platform hpl
  cases Option.some.inj (hc4.symm.trans hc5)
  obtain ⟨vm', X', st⟩ := X.thenCaughtThrough q (g := F0 m pc ls rest) rfl (Steps.refl _) (by rw [hT]; exact hcell) (by rw [hv]; rfl) (by obtain ⟨k9, h9, -⟩ := Vm.findClass_spec hcl; exact ⟨k9, h9⟩) pre x suf hsplit
    (fun z hz => by
      rcases hpass z hz with h | ⟨hz0, nm, hl1, hn1⟩
      · exact Or.inl h
      · obtain ⟨c6, hc6, hcl6⟩ := Cond.classLink_spec hown hl1 e.platform hpl
        obtain ⟨a8, b8, h1, h2, h3⟩ := hn1
        cases Option.some.inj (h1.symm.trans hcl)
        cases Option.some.inj (h2.symm.trans hc6)
        exact Or.inr ⟨hz0, _, hcl6, h3⟩) hx (Or.inr ⟨h0, c4, hcl5, hasg⟩)
  obtain ⟨t, a1, b1⟩ := kk (T.setVm vm') hT X'
  exact ⟨t, st.trans a1, b1⟩
end Rows
section Ends
variable {p : Program} {l : Launch} {e : Env} {R : Room} {s : State} {m : MethodId} {args : Array Value} {below : List Frame} {meth : Method} {c : Code} {H : Heap} {locs : List Loc} {cells slots : Nat} {Q : State → Prop}
variable {mc ms : Nat} {free : Addr → Prop} {A0 A1 : Nat → Prop} {H0 : Heap} {a : Array Value} {ls : Array Slot} {st0 rest : List Value}
variable {Qc : Array Value → State → Outcome → State → Prop} {XC : String → State → State → Prop}
/-- what a body that may throw owes at its end -/
def vx_MQ (below : List Frame) (Qc : Array Value → State → Outcome → State → Prop) (XC : String → State → State → Prop) (a : Array Value) (s : State) (mc ms : Nat) (free : Addr → Prop) : State → Prop := fun t =>
  ∃ o, t.status = .running ∧ Ended t below o ∧ vx_Q Qc XC mc ms free a s o t
theorem vx_ret {g : JFrame} {mc ms : Nat} (k : W p l e R s m args below meth c H locs cells slots (MQ below Qc args s mc ms free) g) : W p l e R s m args below meth c H locs cells slots (vx_MQ below Qc XC args s mc ms free) g := by
  intro T hT X
  obtain ⟨t, a1, o, b1, b2, b3, b4⟩ := k T hT X
  exact ⟨t, a1, o, b1, b2, Or.inl ⟨b3, b4⟩⟩
/-- not caught here: it goes on to the caller -/
theorem vx_widen {g : JFrame} {q : Addr} {k n : Nat} (h1 : cells ≤ k) (h2 : slots ≤ n) (kk : vx_W p l e R s m args below meth c H locs k n Q g q) : vx_W p l e R s m args below meth c H locs cells slots Q g q := fun T hT X => kk T hT (stand_widen X h1 h2)
theorem vx_out {pc : Nat} {E : String} {ce : Cell} {q : Addr} {mc ms : Nat} (hout : ∀ x ∈ c.exceptionTable.toList, covers x pc = false) (hlocks : meth.locks = false) (hcell : H[q]? = some ce) (hv : ce.vm = .none) (hcl : s.vm.findClass E = some ce.cls)
    (hx : ∀ t : State, t.heap = H → s.vm.Alike t.vm → XC E s t) (hf : ∀ z ∈ locs, free z.base) (hc : cells ≤ mc) (hs : slots ≤ ms) :
    vx_W p l e R s m args below meth c H locs cells slots (vx_MQ below Qc XC args s mc ms free) (F0 m pc ls rest) q := by
  intro T hT X
  obtain ⟨st1, hrun, hend, hW, hsm⟩ := X.leaveThrown q (g := F0 m pc ls rest) rfl rfl rfl hout hlocks
  have hcell9 : (T.setFrames (.throwing q :: below)).heap[q]? = some ce := by
    show T.heap[q]? = some ce
    rw [hT]; exact hcell
  exact ⟨_, st1, .threw q, hrun, hend, Or.inr ⟨q, rfl, E, ce, locs, hx _ hT hW.alike, hcell9, hv, hcl, hW, hsm.mono hc hs, hf⟩⟩
theorem vx_frame {U : State} {k n : Nat} (h : s.sameButNew ({ U with vm := s.vm } : State) locs k n) : s.heap.size ≤ U.heap.size ∧ ∀ q : Nat, q < s.heap.size → (∀ z ∈ locs, z.base ≠ q) → U.heap[q]? = s.heap[q]? := by
  obtain ⟨-, h2, -, -, -, h6⟩ := h
  refine ⟨h2, fun q hq hz => ?_⟩
  obtain ⟨c9, e1, e2, e3, e4⟩ := h6 q _ (Array.getElem?_eq_getElem hq)
  have hs : c9.slots = (s.heap[q]).slots := Array.ext_getElem? fun i => e4 i fun hm => hz _ hm rfl
  have h9 : c9 = s.heap[q] := by
    rw [hs] at e2
    exact e2
  have e5 : U.heap[q]? = some c9 := e1
  rw [e5, h9, Array.getElem?_eq_getElem hq]
/-- the words of a throw but the four that speak of the heap -/
def vx_no (w : Cond) : Bool := decide (w ≠ .isRef (.static Bundle.tN "UNASSIGNED_STACK" Bundle.steD)) && decide (w ≠ .isRef (.static Bundle.tN "SUPPRESSED_SENTINEL" Bundle.listD)) && decide (w ≠ .laysStatic Bundle.tN "UNASSIGNED_STACK" Bundle.steD) && decide (w ≠ .laysStatic Bundle.tN "SUPPRESSED_SENTINEL" Bundle.listD)
def vx_at0 (own : String) (ic : Nat) (X : String) (names : List String) : List Cond := (Bundle.ownAtoms0 own ic X names).filter vx_no
def vx_atS (own : String) (ic : Nat) (X : String) (names : List String) : List Cond := (Bundle.ownAtoms own ic X names).filter vx_no
/-- a word that the tables alone decide, or a good one -/
def vx_ot (w : Cond) : Bool := w.onTables || goodWord w
theorem vx_ot_at {args a' : Array Value} {s U : State} {w : Cond} (hW : s.WarmedH U.vm) (hvm : s.vm = U.vm) (hg : vx_ot w = true) (h : w.before args s = true) : w.before a' U = true := by
  simp only [vx_ot, Bool.or_eq_true] at hg
  rcases hg with hg | hg
  · exact va_tabs hg hvm h
  · exact word_at hW (good_of_word hg) h
/-- a list's words: the good ones out of the method's own list, the others by premises of their own -/
theorem vx_hat {args : Array Value} {s : State} {L B : List Cond} (h1 : ∀ w ∈ L.filter goodWord, w.before args s = true) (h2 : ∀ w ∈ L.filter (fun w => !goodWord w), w ∈ B) (h3 : ∀ w ∈ B, w.before args s = true) : ∀ w ∈ L, w.before args s = true := by
  intro w hw
  by_cases g : goodWord w = true
  · exact h1 w (List.mem_filter.mpr ⟨hw, g⟩)
  · refine h3 w (h2 w (List.mem_filter.mpr ⟨hw, ?_⟩))
    show (!goodWord w) = true
    cases hgw : goodWord w
    · rfl
    · exact absurd hgw g
theorem vx_c {args : Array Value} {s : State} {w : Cond} {B : List Cond} (h : w.before args s = true) (t : ∀ w ∈ B, w.before args s = true) : ∀ w' ∈ w :: B, w'.before args s = true := fun w' h' => (List.mem_cons.mp h').elim (fun e => by rw [e]; exact h) (t w')
theorem vx_n {args : Array Value} {s : State} : ∀ w ∈ ([] : List Cond), w.before args s = true := fun _ h => nomatch h
theorem vx_own {args : Array Value} {s : State} {L : List Cond} (h1 : ∀ w ∈ L.filter vx_no, w.before args s = true)
    (hU : (Cond.isRef (.static Bundle.tN "UNASSIGNED_STACK" Bundle.steD)).before args s = true) (hN : (Cond.isRef (.static Bundle.tN "SUPPRESSED_SENTINEL" Bundle.listD)).before args s = true)
    (lU : (Cond.laysStatic Bundle.tN "UNASSIGNED_STACK" Bundle.steD).before args s = true) (lN : (Cond.laysStatic Bundle.tN "SUPPRESSED_SENTINEL" Bundle.listD).before args s = true) : ∀ w ∈ L, w.before args s = true := by
  intro w hw
  by_cases e1 : w = .isRef (.static Bundle.tN "UNASSIGNED_STACK" Bundle.steD)
  · rw [e1]; exact hU
  · by_cases e2 : w = .isRef (.static Bundle.tN "SUPPRESSED_SENTINEL" Bundle.listD)
    · rw [e2]; exact hN
    · by_cases e3 : w = .laysStatic Bundle.tN "UNASSIGNED_STACK" Bundle.steD
      · rw [e3]; exact lU
      · by_cases e4 : w = .laysStatic Bundle.tN "SUPPRESSED_SENTINEL" Bundle.listD
        · rw [e4]; exact lN
        · exact h1 w (List.mem_filter.mpr ⟨hw, by unfold vx_no; rw [decide_eq_true e1, decide_eq_true e2, decide_eq_true e3, decide_eq_true e4]; rfl⟩)
/-- where a static field lies, its class's statics cell in H -/
def vx_L (C n d : String) (A : Nat → Prop) (U : State) (H : Heap) : Prop := ∃ (c : ClassId) (k : Class) (i : Nat) (f : Field) (a : Nat) (cell : Cell), U.vm.findClass C = some c ∧ U.fieldFound? C n d = some (c, k, i, f) ∧ f.isStatic = true ∧ k.statics = some a ∧ H[a]? = some cell ∧ cell.vm.isStatics = true ∧ cell.cls = c ∧ f.slot < cell.slots.size ∧ k.staticTypes[f.slot]? = some f.type ∧ ¬ A a
theorem vx_L.moved {C n d : String} {A : Nat → Prop} {u U : State} {H : Heap} (hvm : u.vm.Alike U.vm) (h : vx_L C n d A u H) : vx_L C n d A U H := by
  obtain ⟨c, k, i, f, a, cell, h1, h2, h3, h4, h5, h6, h7, h8, h9, h10⟩ := h
  obtain ⟨k', hi', he⟩ := State.fieldFound?_setVm hvm h2
  exact ⟨c, k', i, f, a, cell, by rw [hvm.findClass]; exact h1, hi', h3, by rw [he]; exact h4, h5, h6, h7, h8, by rw [he]; exact h9, h10⟩
theorem vx_L.kept {C n d : String} {A : Nat → Prop} {U : State} {H H1 : Heap} (h : vx_L C n d A U H) (hq : ∀ a : Nat, a < H.size → ¬ A a → H1[a]? = H[a]?) : vx_L C n d A U H1 := by
  obtain ⟨c, k, i, f, a, cell, h1, h2, h3, h4, h5, h6, h7, h8, h9, h10⟩ := h
  exact ⟨c, k, i, f, a, cell, h1, h2, h3, h4, by rw [hq a (Array.getElem?_eq_some_iff.mp h5).1 h10]; exact h5, h6, h7, h8, h9, h10⟩
theorem vx_L.narrow {C n d : String} {A B : Nat → Prop} {U : State} {H : Heap} (h : vx_L C n d A U H) (hAB : ∀ q, B q → A q) : vx_L C n d B U H := by
  obtain ⟨c, k, i, f, a, cell, h1, h2, h3, h4, h5, h6, h7, h8, h9, h10⟩ := h
  exact ⟨c, k, i, f, a, cell, h1, h2, h3, h4, h5, h6, h7, h8, h9, fun z => h10 (hAB _ z)⟩
theorem vx_L.word {C n d : String} {A : Nat → Prop} {s : State} {args : Array Value} (h : vx_L C n d A s s.heap) : (Cond.laysStatic C n d).before args s = true := by
  obtain ⟨c, k, i, f, a, cell, h1, h2, h3, h4, h5, h6, h7, h8, h9, -⟩ := h
  show (Cond.laysStatic C n d).holds args s none s [] = true
  exact Cond.laysStatic_of h1 h2 h3 h4 h5 h6 h7 h8 h9
/-- .. and what it holds: null or some reference -/
def vx_Zq (C n d : String) (A : Nat → Prop) (U : State) (H : Heap) : Prop := va_Zq C n d A U H ∧ vx_L C n d A U H
theorem vx_Zq.moved {C n d : String} {A : Nat → Prop} {u U : State} {H : Heap} (hvm : u.vm.Alike U.vm) (h : vx_Zq C n d A u H) : vx_Zq C n d A U H := ⟨va_Zq.moved hvm h.1, vx_L.moved hvm h.2⟩
theorem vx_Zq.kept {C n d : String} {A : Nat → Prop} {U : State} {H H1 : Heap} (h : vx_Zq C n d A U H) (hq : ∀ a : Nat, a < H.size → ¬ A a → H1[a]? = H[a]?) : vx_Zq C n d A U H1 := ⟨va_Zq.kept h.1 hq, vx_L.kept h.2 hq⟩
theorem vx_Zq.narrow {C n d : String} {A B : Nat → Prop} {U : State} {H : Heap} (h : vx_Zq C n d A U H) (hAB : ∀ q, B q → A q) : vx_Zq C n d B U H := ⟨va_Zq.narrow h.1 hAB, vx_L.narrow h.2 hAB⟩
theorem vx_Zqof {args : Array Value} {s : State} {C n d : String} {A : Nat → Prop} (hl : (Cond.laysStatic C n d).before args s = true) (hini : (Cond.initialized C).before args s = true) (h : (Cond.isRef (.static C n d)).before args s = true) (hA : ∀ a : Nat, a < s.heap.size → ¬ A a) : vx_Zq C n d A s s.heap := by
  refine ⟨va_Zqof hl hini h hA, ?_⟩
  obtain ⟨c, k, i, f, a, cell, h1, h2, h3, h4, h5, h6, h7, h8, h9⟩ := Cond.laysStatic_spec hl
  exact ⟨c, k, i, f, a, cell, h1, h2, h3, h4, h5, h6, h7, h8, h9, hA a (Array.getElem?_eq_some_iff.mp h5).1⟩
theorem vx_isRef {C n d : String} {v : Value} {A : Nat → Prop} {s : State} {args : Array Value} (h : va_Z C n d v A s s.heap) (hv : v.isRef = true) : (Cond.isRef (.static C n d)).before args s = true := by
  obtain ⟨cf, kf, fi, f, a, cell, h1, h2, h3, h4, h5, h6, h7, -⟩ := h
  have he : (Term.static C n d).eval args s none [] s = some v := by
    simp [Term.eval, State.fieldNamed?, h1, h2, h4, h5, h6, h7]
  simp only [Cond.before, Cond.holds, Cond.value, he]
  cases v <;> simp_all [Value.isRef]
theorem vx_isRefq {C n d : String} {A : Nat → Prop} {s : State} {args : Array Value} (h : va_Zq C n d A s s.heap) : (Cond.isRef (.static C n d)).before args s = true := by
  rcases h with h | ⟨t, h⟩
  · exact vx_isRef h rfl
  · exact vx_isRef h rfl
/-- the same frame, seen from here: as if the method were called anew in this heap -/
theorem vx_rebase {T : State} (X : Stand p l e R s m args below meth c T locs cells slots) {R' : Room} (hf : R'.frames ≤ R.frames) (hl : R'.locals ≤ R.locals) (hc : cells + R'.cells ≤ R.cells) (hs : slots + R'.slots ≤ R.slots) :
    Stand p l e R' ((T.setVm s.vm).setFrames (.invoking m args :: below)) m args below meth c T [] 0 0 := by
  have htop : (T.setVm s.vm).topJava?.isSome := X.here.top
  have hF : ((T.setVm s.vm).setFrames (.invoking m args :: below)).frames = .invoking m args :: below := State.frames_setFrames _ (State.cur_lt_of_top htop)
  obtain ⟨g₀, hg0⟩ := Option.isSome_iff_exists.mp htop
  obtain ⟨r, hr⟩ := State.topJava?_eq_some.mp hg0
  have hl9 : e.platform.stackLimits (T.setVm s.vm).me = e.platform.stackLimits s.me := X.limits
  have hb9 : (T.setVm s.vm).me.stackBytes = s.me.stackBytes := X.bytes
  refine ⟨X.admits, X.cas, X.clock, hF, ?_, X.hears, X.method, X.code, X.here, X.tail, X.warmed, ?_, ?_, ?_⟩
  · have h := X.room
    have hU : ((T.setVm s.vm).setFrames (.invoking m args :: below)).localsInUse = s.localsInUse := by
      rw [State.localsInUse_invoking hF (meth := meth) (c := c) X.method X.code, State.localsInUse_invoking X.frames X.method X.code]
    simp only [State.hasRoom, Bool.and_eq_true, decide_eq_true_eq] at h ⊢
    obtain ⟨⟨⟨⟨h1, h2, h3, h4, h5, h6⟩, h7⟩, h8⟩, h9⟩ := h
    rw [X.frames, List.length_cons] at h2 h3
    have q1 := X.heapSize
    have q2 := X.used
    simp only [hF, hU, List.length_cons, State.stackLimits_setFrames, State.stackBytes_setFrames, hl9, hb9]
    refine ⟨⟨⟨⟨by omega, by omega, by omega, by omega, by omega, h6⟩, ?_⟩, ?_⟩, X.book⟩
    · show T.heap.size + R'.cells ≤ e.platform.maxCells
      omega
    · show T.slotsUsed + R'.slots ≤ e.platform.maxSlots
      omega
  · rw [State.stackLimits_setFrames]; rfl
  · rw [State.stackBytes_setFrames]; rfl
  · refine ⟨?_, Nat.le_refl _, Nat.le_refl _, ?_, ?_, fun a c9 h9 => ⟨c9, h9, rfl, rfl, fun _ _ => rfl⟩⟩
    · obtain ⟨t, ht, -⟩ := State.frames_cons hr
      show T.setVm s.vm = { ((T.setVm s.vm).setFrames (.invoking m args :: below)).setFrames (T.setVm s.vm).frames with heap := T.heap, slotsUsed := T.slotsUsed }
      rw [State.setFrames_setFrames, State.setFrames_self ht]
      rfl
    · show T.slotsUsed = T.slotsUsed + ((T.heap.toList.drop T.heap.size).map (·.slots.size)).sum
      rw [List.drop_eq_nil_of_le (Nat.le_of_eq Array.length_toList)]
      rfl
    · show ((T.heap.toList.drop T.heap.size).map (·.slots.size)).sum ≤ 0
      rw [List.drop_eq_nil_of_le (Nat.le_of_eq Array.length_toList)]
      exact Nat.le_refl _
/-- 'throw new E()': new; dup; invokespecial; athrow -/
theorem vx_throw0 {cc : ByteArray} {pc : Nat} (hexec : p.tables.exec = Jvm.exec) (hb : c.code = cc) (hl : l.stackTraces = false) {own cls : String} {names : List String} {ik ic mc ms : Nat} {A : Nat → Prop}
    (hown : s.vm.findClass own = some m.cls) (hcls : Bundle.fit cls = true) (hnames : ∀ n ∈ names, Bundle.fit n = true)
    (hk : (Cond.classLink own ik cls).before args s = true) (hini : (Cond.initialized cls).before args s = true) (hat : ∀ w ∈ vx_at0 own ic cls names, w.before args s = true)
    (hgood : ∀ w ∈ Cond.classLink own ik cls :: Cond.initialized cls :: vx_at0 own ic cls names, vx_ot w = true)
    (hU : vx_Zq Bundle.tN "UNASSIGNED_STACK" Bundle.steD A s s.heap) (hN : vx_Zq Bundle.tN "SUPPRESSED_SENTINEL" Bundle.listD A s s.heap) (hS : va_S A s.heap H locs) (hsize : ls.size = c.maxLocals)
    (d0 : decode cc pc = .ok (.new ik, 3)) (d3 : decode cc (pc + 3) = .ok (.dup, 1)) (d4 : decode cc (pc + 4) = .ok (.invokespecial ic, 3)) (d7 : decode cc (pc + 7) = .ok (.athrow, 1))
    (hout : ∀ x ∈ c.exceptionTable.toList, covers x (pc + 7) = false)
    (hRframes : names.length + 3 < R.frames) (hRlocals : (rest.map fun v => v.category).sum + (13 * (names.length + 1) + 42) ≤ R.locals) (hRcells : cells + 1 ≤ R.cells) (hRslots : slots + 6 ≤ R.slots) (hlocks : meth.locks = false)
    (hx : ∀ t : State, s.vm.Alike t.vm → H.size ≤ t.heap.size → (∀ q : Nat, q < H.size → t.heap[q]? = H[q]?) → XC cls s t)
    (hf : ∀ z ∈ locs, free z.base) (hc : cells + 1 ≤ mc) (hs : slots + 6 ≤ ms) :
    W p l e R s m args below meth c H locs cells slots (vx_MQ below Qc XC args s mc ms free) (F0 m pc ls rest) := by
  intro T hT X
  have htr : e.platform.stackTraces = false := (show e.platform.stackTraces = l.stackTraces by rw [X.admits.platform]).trans hl
  have Y := vx_rebase X (R' := { frames := R.frames, locals := R.locals, cells := 1, slots := 6 }) (Nat.le_refl _) (Nat.le_refl _) hRcells hRslots
  obtain ⟨s', hA⟩ : ∃ z, z = (T.setVm s.vm).setFrames (.invoking m args :: below) := ⟨_, rfl⟩
  rw [← hA] at Y
  have hvm : s'.vm = s.vm := by rw [hA]; rfl
  have hhp : s'.heap = H := by rw [hA]; exact hT
  have hW0 : s.WarmedH s'.vm := by rw [hvm]; exact State.WarmedH.refl s
  have hat' : ∀ w ∈ vx_at0 own ic cls names, w.before args s' = true := fun w hw => vx_ot_at hW0 hvm.symm (hgood w (List.mem_cons_of_mem _ (List.mem_cons_of_mem _ hw))) (hat w hw)
  have hk' : (Cond.classLink own ik cls).before args s' = true := vx_ot_at hW0 hvm.symm (hgood _ List.mem_cons_self) hk
  have hini' : (Cond.initialized cls).before args s' = true := vx_ot_at hW0 hvm.symm (hgood _ (List.mem_cons_of_mem _ List.mem_cons_self)) hini
  have hU' : vx_Zq Bundle.tN "UNASSIGNED_STACK" Bundle.steD A s' s'.heap := by rw [hhp]; exact vx_Zq.moved hW0.alike (hU.kept hS.2.1)
  have hN' : vx_Zq Bundle.tN "SUPPRESSED_SENTINEL" Bundle.listD A s' s'.heap := by rw [hhp]; exact vx_Zq.moved hW0.alike (hN.kept hS.2.1)
  have h : ∀ w ∈ Bundle.ownAtoms0 own ic cls names, w.before args s' = true := vx_own hat' (vx_isRefq hU'.1) (vx_isRefq hN'.1) hU'.2.word hN'.2.word
  have hown' : s'.vm.findClass own = some m.cls := by rw [hvm]; exact hown
  have hins : (Cond.instantiable cls 6).before args s' = true := h _ (by simp [Bundle.ownAtoms0])
  obtain ⟨vm₁, cX, kX, hfX, hkX, -, -, X₁, st1⟩ := Y.newCold hexec (own := own) (C := cls) (index := ik) (n := 6) hown' hk' hins hini'
    (g := F0 m pc ls rest) rfl (by rw [hb]; exact d0) (Nat.le_refl _) (Nat.le_refl _)
  generalize hT1 : (T.setVm vm₁).pushCell { cls := cX, slots := kX.instanceTypes.map defaultValue, vm := .none } = T1 at X₁ st1
  have hcat : (Value.ref T.heap.size).category = 1 := rfl
  have hcellA : T1.heap[T.heap.size]? = some (freshCell cX kX) := by rw [← hT1]; exact State.heap_pushCell_size _ _
  have d3' : decode c.code (pc + 3) = .ok (.dup, 1) := by rw [hb]; exact d3
  obtain ⟨U, hsteps, hrun, hend, hW, hsame, ce, hce, hO⟩ := X₁.ctorThrow0 hexec htr (own := own) (cls := cls) (names := names) (ic := ic) hown' hcls hnames h (fun x hx => nomatch hx) hfX hkX hcellA (by rw [hhp, hT]; exact Nat.le_refl _)
    (g := { method := m, pc := pc + 4, locals := ls, stack := .ref T.heap.size :: .ref T.heap.size :: rest, locked := none }) rfl hsize rfl rfl (rest := rest) rfl
    (by rw [hb]; exact d4) (by rw [hb]; exact d7) hout hRframes (by simp only [List.map_cons, List.sum_cons, hcat]; omega) hlocks
  obtain ⟨f1, f2⟩ := vx_frame hsame
  rw [hhp] at f1 f2
  have hWs : s.WarmedH U.vm := State.WarmedH.trans hW0 hW
  have hcl : s.vm.findClass cls = some ce.cls := by
    have h9 := hO.cls
    rw [hvm] at h9
    exact h9
  have hall : s.sameButNew ({ U with vm := s.vm } : State) locs mc ms := by
    subst hA
    obtain ⟨e1, e2⟩ := hsame
    rw [State.setFrames_setFrames] at e1
    have h2 : (T.setVm s.vm).sameButNew ({ U with vm := s.vm } : State) [] (0 + 1) (0 + 6) := ⟨e1, e2⟩
    have h3 := X.same.trans h2
    rw [List.append_nil] at h3
    exact h3.mono hc hs
  refine ⟨U, ?_, .threw T.heap.size, hrun, hend, Or.inr ⟨T.heap.size, rfl, cls, ce, locs, hx U hWs.alike f1 (fun q hq => f2 q hq (fun z hz => nomatch hz)), hce, hO.vm, hcl, hWs, hall, hf⟩⟩
  refine st1 _ ?_
  show Steps p.tables e below (T1.setTop { method := m, pc := pc + 3, locals := ls, stack := .ref T.heap.size :: rest, locked := none }) _
  jvm_step X₁.here [X₁.here.top, hexec, d3', Value.category]
  exact hsteps
/-- 'throw new E("text")': new; dup; ldc; invokespecial; athrow -/
theorem vx_throwS {cc : ByteArray} {pc : Nat} (hexec : p.tables.exec = Jvm.exec) (hb : c.code = cc) (hl : l.stackTraces = false) {own cls text : String} {names : List String} {ik is ic mc ms sa : Nat} {A : Nat → Prop}
    (hown : s.vm.findClass own = some m.cls) (hcls : Bundle.fit cls = true) (hnames : ∀ n ∈ names, Bundle.fit n = true)
    (hk : (Cond.classLink own ik cls).before args s = true) (hini : (Cond.initialized cls).before args s = true) (hstr : vk_R own is text sa s) (hat : ∀ w ∈ vx_atS own ic cls names, w.before args s = true)
    (hgood : ∀ w ∈ Cond.classLink own ik cls :: Cond.initialized cls :: vx_atS own ic cls names, vx_ot w = true)
    (hU : vx_Zq Bundle.tN "UNASSIGNED_STACK" Bundle.steD A s s.heap) (hN : vx_Zq Bundle.tN "SUPPRESSED_SENTINEL" Bundle.listD A s s.heap) (hS : va_S A s.heap H locs) (hsize : ls.size = c.maxLocals)
    (d0 : decode cc pc = .ok (.new ik, 3)) (d3 : decode cc (pc + 3) = .ok (.dup, 1)) (d4 : decode cc (pc + 4) = .ok (.ldc is, 2)) (d6 : decode cc (pc + 6) = .ok (.invokespecial ic, 3)) (d9 : decode cc (pc + 9) = .ok (.athrow, 1))
    (hout : ∀ x ∈ c.exceptionTable.toList, covers x (pc + 9) = false)
    (hRframes : names.length + 3 < R.frames) (hRlocals : (rest.map fun v => v.category).sum + (13 * (names.length + 1) + 43) ≤ R.locals) (hRcells : cells + 1 ≤ R.cells) (hRslots : slots + 6 ≤ R.slots) (hlocks : meth.locks = false)
    (hx : ∀ t : State, s.vm.Alike t.vm → H.size ≤ t.heap.size → (∀ q : Nat, q < H.size → t.heap[q]? = H[q]?) → XC cls s t)
    (hf : ∀ z ∈ locs, free z.base) (hc : cells + 1 ≤ mc) (hs : slots + 6 ≤ ms) :
    W p l e R s m args below meth c H locs cells slots (vx_MQ below Qc XC args s mc ms free) (F0 m pc ls rest) := by
  intro T hT X
  have htr : e.platform.stackTraces = false := (show e.platform.stackTraces = l.stackTraces by rw [X.admits.platform]).trans hl
  have Y := vx_rebase X (R' := { frames := R.frames, locals := R.locals, cells := 1, slots := 6 }) (Nat.le_refl _) (Nat.le_refl _) hRcells hRslots
  obtain ⟨s', hA⟩ : ∃ z, z = (T.setVm s.vm).setFrames (.invoking m args :: below) := ⟨_, rfl⟩
  rw [← hA] at Y
  have hvm : s'.vm = s.vm := by rw [hA]; rfl
  have hhp : s'.heap = H := by rw [hA]; exact hT
  have hW0 : s.WarmedH s'.vm := by rw [hvm]; exact State.WarmedH.refl s
  have hat' : ∀ w ∈ vx_atS own ic cls names, w.before args s' = true := fun w hw => vx_ot_at hW0 hvm.symm (hgood w (List.mem_cons_of_mem _ (List.mem_cons_of_mem _ hw))) (hat w hw)
  have hk' : (Cond.classLink own ik cls).before args s' = true := vx_ot_at hW0 hvm.symm (hgood _ List.mem_cons_self) hk
  have hini' : (Cond.initialized cls).before args s' = true := vx_ot_at hW0 hvm.symm (hgood _ (List.mem_cons_of_mem _ List.mem_cons_self)) hini
  have hU' : vx_Zq Bundle.tN "UNASSIGNED_STACK" Bundle.steD A s' s'.heap := by rw [hhp]; exact vx_Zq.moved hW0.alike (hU.kept hS.2.1)
  have hN' : vx_Zq Bundle.tN "SUPPRESSED_SENTINEL" Bundle.listD A s' s'.heap := by rw [hhp]; exact vx_Zq.moved hW0.alike (hN.kept hS.2.1)
  have h : ∀ w ∈ Bundle.ownAtoms own ic cls names, w.before args s' = true := vx_own hat' (vx_isRefq hU'.1) (vx_isRefq hN'.1) hU'.2.word hN'.2.word
  have hown' : s'.vm.findClass own = some m.cls := by rw [hvm]; exact hown
  have hins : (Cond.instantiable cls 6).before args s' = true := h _ (by simp [Bundle.ownAtoms])
  obtain ⟨vm₁, cX, kX, hfX, hkX, -, -, X₁, st1⟩ := Y.newCold hexec (own := own) (C := cls) (index := ik) (n := 6) hown' hk' hins hini'
    (g := F0 m pc ls rest) rfl (by rw [hb]; exact d0) (Nat.le_refl _) (Nat.le_refl _)
  generalize hT1 : (T.setVm vm₁).pushCell { cls := cX, slots := kX.instanceTypes.map defaultValue, vm := .none } = T1 at X₁ st1
  have hcat : (Value.ref T.heap.size).category = 1 := rfl
  have hcellA : T1.heap[T.heap.size]? = some (freshCell cX kX) := by rw [← hT1]; exact State.heap_pushCell_size _ _
  have d3' : decode c.code (pc + 3) = .ok (.dup, 1) := by rw [hb]; exact d3
  have d4' : decode c.code (pc + 4) = .ok (.ldc is, 2) := by rw [hb]; exact d4
  have hstr' : vk_R own is text sa s' := vk_R.warm hW0 hstr
  obtain ⟨U, hsteps, hrun, hend, hW, hsame, ce, hce, hO⟩ := X₁.ctorThrowS hexec htr (own := own) (cls := cls) (names := names) (ic := ic) hown' hcls hnames h (fun x hx => nomatch hx) hfX hkX hcellA (by rw [hhp, hT]; exact Nat.le_refl _) (msg := .ref sa) rfl
    (g := { method := m, pc := pc + 6, locals := ls, stack := .ref sa :: .ref T.heap.size :: .ref T.heap.size :: rest, locked := none }) rfl hsize rfl rfl (rest := rest) rfl
    (by rw [hb]; exact d6) (by rw [hb]; exact d9) hout hRframes (by simp only [List.map_cons, List.sum_cons, hcat]; omega) hlocks
  obtain ⟨f1, f2⟩ := vx_frame hsame
  rw [hhp] at f1 f2
  have hWs : s.WarmedH U.vm := State.WarmedH.trans hW0 hW
  have hcl : s.vm.findClass cls = some ce.cls := by
    have h9 := hO.cls
    rw [hvm] at h9
    exact h9
  have hall : s.sameButNew ({ U with vm := s.vm } : State) locs mc ms := by
    subst hA
    obtain ⟨e1, e2⟩ := hsame
    rw [State.setFrames_setFrames] at e1
    have h2 : (T.setVm s.vm).sameButNew ({ U with vm := s.vm } : State) [] (0 + 1) (0 + 6) := ⟨e1, e2⟩
    have h3 := X.same.trans h2
    rw [List.append_nil] at h3
    exact h3.mono hc hs
  refine ⟨U, ?_, .threw T.heap.size, hrun, hend, Or.inr ⟨T.heap.size, rfl, cls, ce, locs, hx U hWs.alike f1 (fun q hq => f2 q hq (fun z hz => nomatch hz)), hce, hO.vm, hcl, hWs, hall, hf⟩⟩
  refine st1 _ ?_
  show Steps p.tables e below (T1.setTop { method := m, pc := pc + 3, locals := ls, stack := .ref T.heap.size :: rest, locked := none }) _
  jvm_step X₁.here [X₁.here.top, hexec, d3', Value.category]
  exact X₁.ldcString hexec (own := own) (text := text) (index := is) (a := sa) hown' hstr'.1 hstr'.2
    (g := { method := m, pc := pc + 4, locals := ls, stack := .ref T.heap.size :: .ref T.heap.size :: rest, locked := none }) rfl d4' _ hsteps
/-- 'throw new E("text")', the text by a wide index -/
theorem vx_throwSW {cc : ByteArray} {pc : Nat} (hexec : p.tables.exec = Jvm.exec) (hb : c.code = cc) (hl : l.stackTraces = false) {own cls text : String} {names : List String} {ik is ic mc ms sa : Nat} {A : Nat → Prop}
    (hown : s.vm.findClass own = some m.cls) (hcls : Bundle.fit cls = true) (hnames : ∀ n ∈ names, Bundle.fit n = true)
    (hk : (Cond.classLink own ik cls).before args s = true) (hini : (Cond.initialized cls).before args s = true) (hstr : vk_R own is text sa s) (hat : ∀ w ∈ vx_atS own ic cls names, w.before args s = true)
    (hgood : ∀ w ∈ Cond.classLink own ik cls :: Cond.initialized cls :: vx_atS own ic cls names, vx_ot w = true)
    (hU : vx_Zq Bundle.tN "UNASSIGNED_STACK" Bundle.steD A s s.heap) (hN : vx_Zq Bundle.tN "SUPPRESSED_SENTINEL" Bundle.listD A s s.heap) (hS : va_S A s.heap H locs) (hsize : ls.size = c.maxLocals)
    (d0 : decode cc pc = .ok (.new ik, 3)) (d3 : decode cc (pc + 3) = .ok (.dup, 1)) (d4 : decode cc (pc + 4) = .ok (.ldc_w is, 3)) (d7 : decode cc (pc + 7) = .ok (.invokespecial ic, 3)) (d10 : decode cc (pc + 10) = .ok (.athrow, 1))
    (hout : ∀ x ∈ c.exceptionTable.toList, covers x (pc + 10) = false)
    (hRframes : names.length + 3 < R.frames) (hRlocals : (rest.map fun v => v.category).sum + (13 * (names.length + 1) + 43) ≤ R.locals) (hRcells : cells + 1 ≤ R.cells) (hRslots : slots + 6 ≤ R.slots) (hlocks : meth.locks = false)
    (hx : ∀ t : State, s.vm.Alike t.vm → H.size ≤ t.heap.size → (∀ q : Nat, q < H.size → t.heap[q]? = H[q]?) → XC cls s t)
    (hf : ∀ z ∈ locs, free z.base) (hc : cells + 1 ≤ mc) (hs : slots + 6 ≤ ms) :
    W p l e R s m args below meth c H locs cells slots (vx_MQ below Qc XC args s mc ms free) (F0 m pc ls rest) := by
  intro T hT X
  have htr : e.platform.stackTraces = false := (show e.platform.stackTraces = l.stackTraces by rw [X.admits.platform]).trans hl
  have Y := vx_rebase X (R' := { frames := R.frames, locals := R.locals, cells := 1, slots := 6 }) (Nat.le_refl _) (Nat.le_refl _) hRcells hRslots
  obtain ⟨s', hA⟩ : ∃ z, z = (T.setVm s.vm).setFrames (.invoking m args :: below) := ⟨_, rfl⟩
  rw [← hA] at Y
  have hvm : s'.vm = s.vm := by rw [hA]; rfl
  have hhp : s'.heap = H := by rw [hA]; exact hT
  have hW0 : s.WarmedH s'.vm := by rw [hvm]; exact State.WarmedH.refl s
  have hat' : ∀ w ∈ vx_atS own ic cls names, w.before args s' = true := fun w hw => vx_ot_at hW0 hvm.symm (hgood w (List.mem_cons_of_mem _ (List.mem_cons_of_mem _ hw))) (hat w hw)
  have hk' : (Cond.classLink own ik cls).before args s' = true := vx_ot_at hW0 hvm.symm (hgood _ List.mem_cons_self) hk
  have hini' : (Cond.initialized cls).before args s' = true := vx_ot_at hW0 hvm.symm (hgood _ (List.mem_cons_of_mem _ List.mem_cons_self)) hini
  have hU' : vx_Zq Bundle.tN "UNASSIGNED_STACK" Bundle.steD A s' s'.heap := by rw [hhp]; exact vx_Zq.moved hW0.alike (hU.kept hS.2.1)
  have hN' : vx_Zq Bundle.tN "SUPPRESSED_SENTINEL" Bundle.listD A s' s'.heap := by rw [hhp]; exact vx_Zq.moved hW0.alike (hN.kept hS.2.1)
  have h : ∀ w ∈ Bundle.ownAtoms own ic cls names, w.before args s' = true := vx_own hat' (vx_isRefq hU'.1) (vx_isRefq hN'.1) hU'.2.word hN'.2.word
  have hown' : s'.vm.findClass own = some m.cls := by rw [hvm]; exact hown
  have hins : (Cond.instantiable cls 6).before args s' = true := h _ (by simp [Bundle.ownAtoms])
  obtain ⟨vm₁, cX, kX, hfX, hkX, -, -, X₁, st1⟩ := Y.newCold hexec (own := own) (C := cls) (index := ik) (n := 6) hown' hk' hins hini'
    (g := F0 m pc ls rest) rfl (by rw [hb]; exact d0) (Nat.le_refl _) (Nat.le_refl _)
  generalize hT1 : (T.setVm vm₁).pushCell { cls := cX, slots := kX.instanceTypes.map defaultValue, vm := .none } = T1 at X₁ st1
  have hcat : (Value.ref T.heap.size).category = 1 := rfl
  have hcellA : T1.heap[T.heap.size]? = some (freshCell cX kX) := by rw [← hT1]; exact State.heap_pushCell_size _ _
  have d3' : decode c.code (pc + 3) = .ok (.dup, 1) := by rw [hb]; exact d3
  have d4' : decode c.code (pc + 4) = .ok (.ldc_w is, 3) := by rw [hb]; exact d4
  have hstr' : vk_R own is text sa s' := vk_R.warm hW0 hstr
  obtain ⟨U, hsteps, hrun, hend, hW, hsame, ce, hce, hO⟩ := X₁.ctorThrowS hexec htr (own := own) (cls := cls) (names := names) (ic := ic) hown' hcls hnames h (fun x hx => nomatch hx) hfX hkX hcellA (by rw [hhp, hT]; exact Nat.le_refl _) (msg := .ref sa) rfl
    (g := { method := m, pc := pc + 7, locals := ls, stack := .ref sa :: .ref T.heap.size :: .ref T.heap.size :: rest, locked := none }) rfl hsize rfl rfl (rest := rest) rfl
    (by rw [hb]; exact d7) (by rw [hb]; exact d10) hout hRframes (by simp only [List.map_cons, List.sum_cons, hcat]; omega) hlocks
  obtain ⟨f1, f2⟩ := vx_frame hsame
  rw [hhp] at f1 f2
  have hWs : s.WarmedH U.vm := State.WarmedH.trans hW0 hW
  have hcl : s.vm.findClass cls = some ce.cls := by
    have h9 := hO.cls
    rw [hvm] at h9
    exact h9
  have hall : s.sameButNew ({ U with vm := s.vm } : State) locs mc ms := by
    subst hA
    obtain ⟨e1, e2⟩ := hsame
    rw [State.setFrames_setFrames] at e1
    have h2 : (T.setVm s.vm).sameButNew ({ U with vm := s.vm } : State) [] (0 + 1) (0 + 6) := ⟨e1, e2⟩
    have h3 := X.same.trans h2
    rw [List.append_nil] at h3
    exact h3.mono hc hs
  refine ⟨U, ?_, .threw T.heap.size, hrun, hend, Or.inr ⟨T.heap.size, rfl, cls, ce, locs, hx U hWs.alike f1 (fun q hq => f2 q hq (fun z hz => nomatch hz)), hce, hO.vm, hcl, hWs, hall, hf⟩⟩
  refine st1 _ ?_
  show Steps p.tables e below (T1.setTop { method := m, pc := pc + 3, locals := ls, stack := .ref T.heap.size :: rest, locked := none }) _
  jvm_step X₁.here [X₁.here.top, hexec, d3', Value.category]
  exact X₁.ldcStringW hexec (own := own) (text := text) (index := is) (a := sa) hown' hstr'.1 hstr'.2
    (g := { method := m, pc := pc + 4, locals := ls, stack := .ref T.heap.size :: .ref T.heap.size :: rest, locked := none }) rfl d4' _ hsteps
end Ends
section Bodies
variable {l : Launch}
theorem vx_ofW {y : MethodName} {ws ws' : List Cond} {rm : Room} {Pc : Array Value → State → Prop} {Qc : Array Value → State → Outcome → State → Prop} {XC : String → State → State → Prop} {mc ms : Nat} {free : Addr → Prop} {cc : ByteArray} {maxL : Nat} {ret : Option FieldType}
    (hy : plainName y.cls = true) (hw : ws = Cond.code y cc maxL ret :: ws')
    (body : ∀ p e s m args below meth c s₁, BodyLoose p l y (headSpec ws rm) cc maxL ret e s m args below meth c s₁ → c.maxLocals = maxL → (∀ x ∈ c.exceptionTable.toList, False) → Pc args s →
      W p l e (headSpec ws rm).room s m args below meth c s.heap [] 0 0 (vx_MQ below Qc XC args s mc ms free) (entryFrame m args maxL)) : vx_Met l y ws rm Pc Qc XC mc ms free := by
  refine MetFree.of_bodyS (code := cc) (maxLocals := maxL) (ret := ret) hy ?_ ?_
  · intro args s m h hn
    obtain ⟨meth, c, h1, h2, h3, h4, h5, h6, -, -⟩ := Cond.code_spec hn (atoms_spec (ws := ws) h _ (by rw [hw]; exact List.mem_cons_self))
    exact ⟨meth, c, h1, h2, h3, h4, h5, h6⟩
  · intro p e s m args below meth c s₁ B hml hP _
    have hh0 : s₁.heap = s.heap := by rw [B.state]; rfl
    have ht : ∀ x ∈ c.exceptionTable.toList, False := by
      obtain ⟨meth9, c9, h1, h2, -, -, -, -, h7, -⟩ := Cond.code_spec B.named (atoms_spec (ws := ws) B.pre _ (by rw [hw]; exact List.mem_cons_self))
      cases Option.some.inj (h1.symm.trans B.method)
      cases Option.some.inj (h2.symm.trans (Stand.of_body B).code)
      intro x hx
      rw [Array.isEmpty_iff.mp h7] at hx
      cases hx
    obtain ⟨t, a1, o, b1, b2, b3⟩ := body p e s m args below meth c s₁ B hml ht hP s₁ hh0 (Stand.of_body B)
    exact ⟨t, o, a1, b1, b2, b3⟩
/-- the table of a body with handlers -/
theorem vx_table {p : Program} {x y : MethodName} {S : Spec} {cc bytes : ByteArray} {maxL maxL' : Nat} {ret ret' : Option FieldType} {e : Env} {s s₁ : State} {m : MethodId} {args : Array Value} {below : List Frame} {meth : Method} {c : Code} {hh : List (Nat × Nat × Nat × Nat)}
    (B : BodyLoose p l y S cc maxL ret e s m args below meth c s₁) (h : (Cond.codeWith y bytes maxL' ret' hh).before args s = true) : c.exceptionTable.toList = tableOf hh := by
  obtain ⟨m9, meth9, c9, hn9, h1, h2, -, -, h6, -⟩ := Cond.codeWith_spec h
  cases Option.some.inj (hn9.symm.trans B.named)
  cases Option.some.inj (h1.symm.trans B.method)
  cases Option.some.inj (h2.symm.trans (Stand.of_body B).code)
  rw [← h6, table_eq]
end Bodies
end VXA
/-! ===== END ===== -/
/-! ===== BEGIN a static call of a method with an exception table ===== -/
section VXS
variable {p : Program} {l : Launch} {e : Env} {R : Room} {s : State} {m : MethodId} {args : Array Value} {below : List Frame} {meth : Method} {c : Code} {T : State} {H : Heap} {locs : List Loc} {cells slots : Nat}
abbrev vx_CSW (R : Room) (s : State) (args : Array Value) (own : String) (index : Nat) (y : MethodName) (bytes : ByteArray) (maxL : Nat) (ret : Option FieldType) (hh : List (Nat × Nat × Nat × Nat)) (ws : List Cond) (rm : Room) (mc ms n : Nat) : Prop :=
  (rm.cells = mc ∧ rm.slots = ms ∧ rm.frames + 1 ≤ R.frames ∧ 8 + (maxL + 11) + rm.locals ≤ R.locals ∧ (∀ w ∈ ws, ∀ (a' : Array Value) (U : State), s.WarmedH U.vm → w.before a' U = true) ∧ Cond.codeWith y bytes maxL ret hh ∈ ws) ∧
  (Cond.codeWith y bytes maxL ret hh).before args s = true ∧ (Cond.initialized y.cls).before args s = true ∧ (y.cls ≠ "java/lang/invoke/MethodHandle" ∧ y.cls ≠ "java/lang/invoke/VarHandle") ∧
  (∀ sig, parseMethodDescriptor y.desc = some sig → n = sig.parameters.length) ∧ (Cond.methodLink own index y).before args s = true ∧ (Cond.static y).before args s = true
theorem vx_cwSW {own : String} {index maxL mc ms : Nat} {y : MethodName} {bytes : ByteArray} {ret : Option FieldType} {hh : List (Nat × Nat × Nat × Nat)} {Ts ws ws' : List Cond} {rm : Room} (n : Nat) (ht : ∀ w ∈ Ts, w.before args s = true) (hT : GoodIn Ts (va_wsS own index y ws)) (hw : ws = Cond.codeWith y bytes maxL ret hh :: ws') (hrc : rm.cells = mc) (hrs : rm.slots = ms)
    (hd : y.cls ≠ "java/lang/invoke/MethodHandle" ∧ y.cls ≠ "java/lang/invoke/VarHandle" ∧ (parseMethodDescriptor y.desc).map (fun d => d.parameters.length) = some n) (hR : rm.frames + 1 ≤ R.frames ∧ 8 + (maxL + 11) + rm.locals ≤ R.locals) :
    vx_CSW R s args own index y bytes maxL ret hh ws rm mc ms n := by
  have ok : ∀ w ∈ va_wsS own index y ws, w.before args s = true := fun w h => ht w (hT w h).1
  have hG : GoodIn Ts ws := fun w h => hT w (by unfold va_wsS; exact List.mem_append_right _ h)
  have hc : Cond.codeWith y bytes maxL ret hh ∈ ws := by rw [hw]; exact List.mem_cons_self
  refine ⟨⟨hrc, hrs, hR.1, hR.2, pay_in ht hG, hc⟩, ht _ (hG _ hc).1, ok _ (by simp [va_wsS]), ⟨hd.1, hd.2.1⟩, fun sig h => ?_, ok _ (by simp [va_wsS]), ok _ (by simp [va_wsS])⟩
  have h2 := hd.2.2
  rw [h] at h2
  exact (Option.some.inj h2).symm
theorem vx_callSW (X : Stand p l e R s m args below meth c T locs cells slots) (hexec : p.tables.exec = Jvm.exec) {own : String} {index : Nat} {y : MethodName} {bytes : ByteArray} {maxL : Nat} {ret : Option FieldType} {hh : List (Nat × Nat × Nat × Nat)}
    (hown : s.vm.findClass own = some m.cls) (hlink : (Cond.methodLink own index y).before args s = true) (hstat : (Cond.static y).before args s = true) (hinit : (Cond.initialized y.cls).before args s = true)
    (hcode : (Cond.codeWith y bytes maxL ret hh).before args s = true) (hy : y.cls ≠ "java/lang/invoke/MethodHandle" ∧ y.cls ≠ "java/lang/invoke/VarHandle")
    {W9 : Nat} {Pre : Pt → Array Value → Prop} {Post : Pt → Array Value → Option Value → Pt → Prop} (hK : Back l R p e below s args y 3 W9 Pre Post)
    {g : JFrame} (hg : g.method = m) (hsize : g.locals.size = c.maxLocals) {argsL rest : List Value} (hlen : ∀ sig, parseMethodDescriptor y.desc = some sig → argsL.length = sig.parameters.length)
    (hstack : g.stack = argsL.reverse ++ rest) (hW : 2 * g.monitorRoom + (rest.map fun v => v.category).sum ≤ W9) (hdg : decode c.code g.pc = .ok (.invokestatic index, 3))
    (hpre : ∀ vm₁, s.WarmedH vm₁ → Pre ⟨T.setVm vm₁, locs, cells, slots⟩ argsL.toArray) :
    ∃ (v : Option Value) (vm₁ : Vm) (B : Pt), s.WarmedH vm₁ ∧ Stand p l e R s m args below meth c B.U B.locs B.cells B.slots ∧ Post ⟨T.setVm vm₁, locs, cells, slots⟩ argsL.toArray v B ∧
      ∀ target, Steps p.tables e below (B.U.setTop { g with pc := g.pc + 3, stack := v.toList ++ rest }) target → Steps p.tables e below (T.setTop g) target := by
  obtain ⟨mk, methM, cM, hnamed, hmethM, -, -, -, -, -, -, hsigM⟩ := Cond.codeWith_spec hcode
  have hstatic : methM.isStatic = true := Cond.static_spec hnamed hmethM hstat
  obtain ⟨kP, hkP, -⟩ := className_of_methodNamed hnamed
  have hinitP : kP.init = .initialized := Cond.initialized_spec (findClass_of_methodNamed hnamed) hkP hinit
  obtain ⟨vm₁, X₁, hstep₁⟩ := X.invokestatic hexec hown hlink hnamed hmethM hstatic hkP hinitP hy (g := g) hg (argsL := argsL) (rest := rest) (hlen _ hsigM) hstack hdg
  obtain ⟨v, B, X', hpost, hsteps⟩ := hK m meth c ⟨T.setVm vm₁, locs, cells, slots⟩ { g with stack := rest } (.invokestatic index) mk argsL.toArray X₁ hg hsize hdg hW (X₁.named hnamed) (hpre vm₁ X₁.warmed)
  exact ⟨v, vm₁, B, X₁.warmed, X', hpost, fun target h => hstep₁ _ fun acts => by rw [doInvoke_state]; exact hsteps.trans h⟩
theorem vx_runSW {y : MethodName} {bytes cc : ByteArray} {maxL nL mc ms n index : Nat} {ret : Option FieldType} {hh : List (Nat × Nat × Nat × Nat)} {ws : List Cond} {rm : Room} {Pc : Array Value → State → Prop} {Qc : Array Value → State → Outcome → State → Prop} {free : Addr → Prop} {Ts : List Cond} {own : String} {As rest : List Value} {g : JFrame}
    (S : CallFix p m c cc nL s args Ts own) (hM : Met l y ws rm Pc Qc mc ms free) (cw : vx_CSW R s args own index y bytes maxL ret hh ws rm mc ms n) (hp : PreS s H Pc As)
    (hg : g.method = m) (hn : As.length = n) (hsize : g.locals.size = nL) (hstack : g.stack = As.reverse ++ rest) (hW : 2 * g.monitorRoom + (rest.map fun v => v.category).sum ≤ 8) (hdg : decode cc g.pc = .ok (.invokestatic index, 3)) (hf : cells + mc ≤ R.cells ∧ slots + ms ≤ R.slots) :
    va_Run p l e R s m args below meth c H locs cells slots mc ms g rest (Qc As.toArray) (free) := by
  obtain ⟨⟨hrc, hrs, hfr, hlo, hws, hcw⟩, hcode, hini, hy, hlen, hl, hstt⟩ := cw
  have hK : Back l R p e below s args y 3 8 (PreOf R mc ms Pc) (PostOf Qc mc ms free) := va_backW (hh := hh) (bytes := bytes) (maxL := maxL) (ret := ret) hM hp.1 hrc hrs hfr hlo hws hcw (fun a' U hW => word_at hW (Or.inl (by first | rfl | simp [Cond.onTables, Cond.keeps, Cond.steady])) hini)
  obtain ⟨hx, hb, hml, ho, -⟩ := S
  intro T hT X
  obtain ⟨v, vm₁, ⟨U', l2, c2, s2⟩, hW₁, X', ⟨g', mk, t, L, e1, e2, hq, h1, hL, h2, h3⟩, st⟩ := vx_callSW X hx (hh := hh) (bytes := bytes) (maxL := maxL) (ret := ret) ho hl hstt hini hcode hy hK hg (hsize.trans hml.symm) (argsL := As) (rest := rest) (fun sig h => hn.trans (hlen sig h)) hstack hW (by rw [hb]; exact hdg)
    (fun vm₁ hW₁ => ⟨hf.1, hf.2, hp.2 (T.setVm vm₁) hT hW₁⟩)
  dsimp only [Pt.U, Pt.locs, Pt.cells, Pt.slots] at X' e1 e2 h1 h2 h3 st
  subst h1; subst h2; subst h3
  exact ⟨v, (T.setVm vm₁).calling g' mk As.toArray, t, U', L, hT, X', hL, e1, e2, hq, st⟩
/-- not caught here, past rows that name other classes: it goes on to the caller -/
theorem vx_outP {p : Program} {l : Launch} {e : Env} {R : Room} {s : State} {m : MethodId} {args : Array Value} {below : List Frame} {meth : Method} {c : Code} {H : Heap} {locs : List Loc} {cells slots : Nat} {free : Addr → Prop} {ls : Array Slot} {rest : List Value} {Qc : Array Value → State → Outcome → State → Prop} {XC : String → State → State → Prop}
    {pc : Nat} {own E : String} {ce : Cell} {q : Addr} {mc ms : Nat} (hown : s.vm.findClass own = some m.cls) (hlocks : meth.locks = false)
    (hpass : ∀ z ∈ c.exceptionTable.toList, covers z pc = false ∨ (z.catchType ≠ 0 ∧ ∃ nm : String, (Cond.classLink own z.catchType nm).before args s = true ∧ va_Nc E nm s)) (hcell : H[q]? = some ce) (hv : ce.vm = .none) (hcl : s.vm.findClass E = some ce.cls)
    (hx : ∀ t : State, t.heap = H → s.vm.Alike t.vm → XC E s t) (hf : ∀ z ∈ locs, free z.base) (hc : cells ≤ mc) (hs : slots ≤ ms) :
    vx_W p l e R s m args below meth c H locs cells slots (vx_MQ below Qc XC args s mc ms free) (F0 m pc ls rest) q := by
  intro T hT X
  have hpl : e.platform.magicAccessors = ({} : Platform).magicAccessors := by rw [X.admits.platform]
  obtain ⟨vm', hW', X', st⟩ := X.outThrough hlocks q (g := F0 m pc ls rest) rfl rfl rfl (cell := ce) (by rw [hT]; exact hcell) (by rw [hv]; rfl)
    (by obtain ⟨k9, h9, -⟩ := Vm.findClass_spec hcl; exact ⟨k9, h9⟩) (fun z hz => by
      rcases hpass z hz with h | ⟨hz0, nm, hl1, hn1⟩
      · exact Or.inl h
      · obtain ⟨c6, hc6, hcl6⟩ := Cond.classLink_spec hown hl1 e.platform hpl
        obtain ⟨a8, b8, h1, h2, h3⟩ := hn1
        cases Option.some.inj (h1.symm.trans hcl)
        cases Option.some.inj (h2.symm.trans hc6)
        exact Or.inr ⟨hz0, _, hcl6, h3⟩)
  obtain ⟨g₀, hfr⟩ := X'.frames_eq
  have hcell9 : ((T.setVm vm').setFrames (.throwing q :: below)).heap[q]? = some ce := by
    show T.heap[q]? = some ce
    rw [hT]; exact hcell
  have hend : Ended ((T.setVm vm').setFrames (.throwing q :: below)) below (.threw q) := State.frames_setFrames _ (State.cur_lt_of_frames hfr)
  refine ⟨(T.setVm vm').setFrames (.throwing q :: below), ?_, .threw q, X'.here.running, hend, Or.inr ⟨q, rfl, E, ce, locs, hx _ hT (X'.ends _).1.alike, hcell9, hv, hcl, (X'.ends _).1, (X'.ends _).2.mono hc hs, hf⟩⟩
  rw [X.pushThrowing_eq]
  exact st
/-- a thing of a world lies in the heap -/
theorem vx_lt {D : va_G} {cl : List vw_C} {ws : va_W} {H1 : Heap} (h : va_P D cl ws H1) {k : Nat} {q : Nat × va_E} (hk : ws[k]? = some q) : q.1 < H1.size := (h k q hk).lt
end VXS
/-! ===== END ===== -/
/-! ===== BEGIN methods with a table of their own: called by a name, returning or throwing ===== -/
section VXH
/-! vx_backW, vx_callVX, vx_callSX, vx_callVW, vx_runVW, vx_runVX, vx_runSX, vx_ofWH follow the same proofs as their sisters above (Free/Laws.lean, Shelf42/LK1.lean); vx_outP calls Shelf42/NT130.lean (outThrough). -/
section
variable {l : Launch} {R : Room} {p : Program} {e : Env} {below : List Frame} {s : State} {sargs : Array Value} {y : MethodName} {len W9 : Nat}
theorem vx_backW {ws : List Cond} {rm : Room} {Pc : Array Value → State → Prop} {Qc : Array Value → State → Outcome → State → Prop} {XC : String → State → State → Prop} {mc ms : Nat} {free : Addr → Prop} {bytes : ByteArray} {maxL : Nat} {ret : Option FieldType} {hh : List (Nat × Nat × Nat × Nat)}
    (hM : vx_Met l y ws rm Pc Qc XC mc ms free) (hblind : FrameBlind Pc) (hrc : rm.cells = mc) (hrs : rm.slots = ms)
    (hframes : rm.frames + 1 ≤ R.frames) (hlocals : W9 + (maxL + 11) + rm.locals ≤ R.locals)
    (hws : ∀ w ∈ ws, ∀ a' U, s.WarmedH U.vm → w.before a' U = true) (hcode : Cond.codeWith y bytes maxL ret hh ∈ ws) (hinit : ∀ a' U, s.WarmedH U.vm → (Cond.initialized y.cls).before a' U = true) :
    vx_Back l R p e below s sargs y len W9 (PreOf R mc ms Pc) (PostOf Qc mc ms free) (vx_Post XC mc ms free) := by
  intro m meth c A g ig mk a X hg hsize hdg hW hn hp
  have h1 : (headSpec ws rm).pre.before a A.U = true := atoms_intro fun w hw => hws w hw _ _ X.warmed
  have h2 : (Cond.codeWith y bytes maxL ret hh).before a A.U = true := hws _ hcode _ _ X.warmed
  have h3 : (Cond.initialized y.cls).before a A.U = true := hinit _ _ X.warmed
  have h4 : A.cells + (headSpec ws rm).room.cells ≤ R.cells := by rw [show (headSpec ws rm).room.cells = mc from hrc]; exact hp.1
  have h5 : A.slots + (headSpec ws rm).room.slots ≤ R.slots := by rw [show (headSpec ws rm).room.slots = ms from hrs]; exact hp.2.1
  have hPc : Pc a (A.U.calling g mk a) := hblind _ _ _ _ hp.2.2
  obtain ⟨U, Ls, c0, s0⟩ := A
  dsimp only [Pt.U, Pt.locs, Pt.cells, Pt.slots] at h1 h2 h3 h4 h5 X hn hPc ⊢
  obtain ⟨m9, methY, cY, hn9, hmY, hcY, -, hlY, -⟩ := Cond.codeWith_spec h2
  cases Option.some.inj (hn9.symm.trans hn)
  obtain ⟨kY, hkY, -⟩ := className_of_methodNamed hn
  have hinitY : kY.init = .initialized := Cond.initialized_spec (findClass_of_methodNamed hn) hkY h3
  have h : At U g.method c below := by rw [hg]; exact X.here
  have hlocals9 : W9 + (maxL + 11) + (headSpec ws rm).room.locals ≤ R.locals := hlocals
  have happ : (headSpec ws rm).appliesLoose y e.platform (U.calling g mk a) = true :=
    Spec.appliesLoose_calling (g := g) h hdg hn hkY hinitY
      (X.room_calling (g := g) (R' := (headSpec ws rm).room) hsize hmY hcY hframes (by rw [hlY]; omega) h4 h5) h1
  obtain ⟨mid, hmid⟩ := h.above
  have hfr : (U.setTop g).frames = (.java g :: mid) ++ below := by rw [State.frames_setTop' g h.top, hmid]; rfl
  obtain ⟨o, s₂, hsteps, -, hend, hq⟩ := Steps.callFree hM p X.admits X.cas X.clock (acts := []) hfr happ hPc trivial
  have hq' : vx_Q Qc XC mc ms free a (U.calling g mk a) o s₂ := hq
  rw [State.frames_setTop' g h.top] at hend
  obtain ⟨g₀, hg0⟩ := Option.isSome_iff_exists.mp h.top
  obtain ⟨r, hr⟩ := State.topJava?_eq_some.mp hg0
  have hr' : (({ U with heap := s₂.heap, slotsUsed := s₂.slotsUsed } : State).setVm s₂.vm).frames = .java g₀ :: r := hr
  rcases hq' with ⟨hqc, L, hfe, hL⟩ | ⟨q, rfl, E, ce, L, hx, hce, hcv, hcl, hW₂, hsm, hL⟩
  · obtain ⟨⟨v, rfl⟩, hW₂, e2, q2, q3, q4, q5, q6⟩ := id hfe
    have e3 : s₂ = ({ (U.calling g mk a).setFrames s₂.frames with heap := s₂.heap, slotsUsed := s₂.slotsUsed } : State).setVm s₂.vm := by
      have : s₂ = ({ s₂ with vm := (U.calling g mk a).vm } : State).setVm s₂.vm := rfl
      rw [e2] at this
      exact this
    obtain ⟨c₂, i₂, len₂, hc₂, hd₂, hf₂⟩ := hend
    have hW' : U.WarmedH s₂.vm := hW₂
    have hcc : c₂ = c := by
      have h1 : s₂.code? g.method = U.code? g.method := by
        rw [State.code?_eq, State.code?_eq, hW'.alike.method?]
      exact Option.some.inj (hc₂.symm.trans (h1.trans h.code))
    subst hcc
    have hlen : len₂ = len := by rw [hdg] at hd₂; cases hd₂; rfl
    subst hlen
    have hs₂ : s₂ = (({ U with heap := s₂.heap, slotsUsed := s₂.slotsUsed } : State).setVm s₂.vm).setTop { g with pc := g.pc + len₂, stack := v.toList ++ g.stack } := by
      refine e3.trans ?_
      rw [hf₂, State.calling_eq h.top, State.setFrames_setFrames, State.setTop_of_frames _ hr', hr]
      rfl
    have hsame : U.sameButNew ({ U with heap := s₂.heap, slotsUsed := s₂.slotsUsed } : State) L mc ms := by
      refine ⟨?_, q2, q3, q4, q5, q6⟩
      obtain ⟨t, ht, -⟩ := State.frames_cons hr
      show ({ U with heap := s₂.heap, slotsUsed := s₂.slotsUsed } : State) = { U.setFrames U.frames with heap := s₂.heap, slotsUsed := s₂.slotsUsed }
      rw [State.setFrames_self ht]
    subst hg
    refine Or.inl ⟨v, ⟨(({ U with heap := s₂.heap, slotsUsed := s₂.slotsUsed } : State).setVm s₂.vm), Ls ++ L, c0 + mc, s0 + ms⟩,
      ⟨X.admits, X.cas, X.clock, X.frames, X.room, X.hears, X.method, X.code, (X.here.setHeapUsed s₂.heap s₂.slotsUsed).setVm hW'.alike, X.tail, State.WarmedH.trans X.warmed hW', X.limits, X.bytes, X.same.trans (hsame.setVm s.vm)⟩,
      ⟨g, mk, s₂, L, rfl, rfl, hqc, rfl, hL, rfl, rfl⟩, ?_⟩
    show Steps p.tables e below _ ((({ U with heap := s₂.heap, slotsUsed := s₂.slotsUsed } : State).setVm s₂.vm).setTop { g with pc := g.pc + len₂, stack := v.toList ++ g.stack })
    rw [← hs₂]
    exact hsteps
  · obtain ⟨e2, q2, q3, q4, q5, q6⟩ := id hsm
    have e3 : s₂ = ({ (U.calling g mk a).setFrames s₂.frames with heap := s₂.heap, slotsUsed := s₂.slotsUsed } : State).setVm s₂.vm := by
      have : s₂ = ({ s₂ with vm := (U.calling g mk a).vm } : State).setVm s₂.vm := rfl
      rw [e2] at this
      exact this
    have hf₂ : s₂.frames = .throwing q :: .java g :: U.frames.tail := hend
    have hW' : U.WarmedH s₂.vm := hW₂
    have hs₂ : s₂ = ((({ U with heap := s₂.heap, slotsUsed := s₂.slotsUsed } : State).setVm s₂.vm).setTop g).pushFrame (.throwing q) := by
      refine e3.trans ?_
      rw [hf₂, State.calling_eq h.top, State.setFrames_setFrames, State.pushFrame, State.frames_setTop _ hr', State.setTop_of_frames _ hr', State.setFrames_setFrames, hr]
      rfl
    have hsame : U.sameButNew ({ U with heap := s₂.heap, slotsUsed := s₂.slotsUsed } : State) L mc ms := by
      refine ⟨?_, q2, q3, q4, q5, q6⟩
      obtain ⟨t, ht, -⟩ := State.frames_cons hr
      show ({ U with heap := s₂.heap, slotsUsed := s₂.slotsUsed } : State) = { U.setFrames U.frames with heap := s₂.heap, slotsUsed := s₂.slotsUsed }
      rw [State.setFrames_self ht]
    subst hg
    refine Or.inr ⟨q, ⟨(({ U with heap := s₂.heap, slotsUsed := s₂.slotsUsed } : State).setVm s₂.vm), Ls ++ L, c0 + mc, s0 + ms⟩,
      ⟨X.admits, X.cas, X.clock, X.frames, X.room, X.hears, X.method, X.code, (X.here.setHeapUsed s₂.heap s₂.slotsUsed).setVm hW'.alike, X.tail, State.WarmedH.trans X.warmed hW', X.limits, X.bytes, X.same.trans (hsame.setVm s.vm)⟩,
      ⟨g, mk, s₂, L, E, ce, rfl, rfl, hx, hce, hcv, hcl, rfl, hL, rfl, rfl⟩, ?_⟩
    show Steps p.tables e below _ (((({ U with heap := s₂.heap, slotsUsed := s₂.slotsUsed } : State).setVm s₂.vm).setTop g).pushFrame (.throwing q))
    rw [← hs₂]
    exact hsteps
end
variable {p : Program} {l : Launch} {e : Env} {R : Room} {s : State} {m : MethodId} {args : Array Value} {below : List Frame} {meth : Method} {c : Code} {T : State} {H : Heap} {locs : List Loc} {cells slots : Nat}
theorem vx_callVX (X : Stand p l e R s m args below meth c T locs cells slots) (hexec : p.tables.exec = Jvm.exec) {own C : String} {index : Nat} {y : MethodName} {bytes : ByteArray} {maxL : Nat} {ret : Option FieldType} {hh : List (Nat × Nat × Nat × Nat)}
    (hown : s.vm.findClass own = some m.cls) (hlink : (Cond.methodLink own index y).before args s = true) (hinst : (Cond.instanceMethod y).before args s = true) (hsel : (Cond.selects C y y).before args s = true)
    (hcode : (Cond.codeWith y bytes maxL ret hh).before args s = true) (hy : y.cls ≠ "java/lang/invoke/MethodHandle" ∧ y.cls ≠ "java/lang/invoke/VarHandle")
    {W9 : Nat} {Pre : Pt → Array Value → Prop} {Post : Pt → Array Value → Option Value → Pt → Prop} {PostX : Pt → Array Value → Addr → Pt → Prop} (hK : vx_Back l R p e below s args y 3 W9 Pre Post PostX)
    {b : Addr} {cellB : Cell} (hcell : T.heap[b]? = some cellB) (hobj : cellB.vm.isStatics = false) (hcls : s.vm.findClass C = some cellB.cls)
    {g : JFrame} (hg : g.method = m) (hsize : g.locals.size = c.maxLocals) {argsL rest : List Value} (hlen : ∀ sig, parseMethodDescriptor y.desc = some sig → argsL.length = sig.parameters.length)
    (hstack : g.stack = argsL.reverse ++ .ref b :: rest) (hW : 2 * g.monitorRoom + (rest.map fun v => v.category).sum ≤ W9) (hdg : decode c.code g.pc = .ok (.invokevirtual index, 3))
    (hpre : ∀ vm₁, s.WarmedH vm₁ → Pre ⟨T.setVm vm₁, locs, cells, slots⟩ (Value.ref b :: argsL).toArray) :
    (∃ (v : Option Value) (vm₁ : Vm) (B : Pt), s.WarmedH vm₁ ∧ Stand p l e R s m args below meth c B.U B.locs B.cells B.slots ∧ Post ⟨T.setVm vm₁, locs, cells, slots⟩ (Value.ref b :: argsL).toArray v B ∧
      ∀ target, Steps p.tables e below (B.U.setTop { g with pc := g.pc + 3, stack := v.toList ++ rest }) target → Steps p.tables e below (T.setTop g) target) ∨
    (∃ (q : Addr) (vm₁ : Vm) (B : Pt), s.WarmedH vm₁ ∧ Stand p l e R s m args below meth c B.U B.locs B.cells B.slots ∧ PostX ⟨T.setVm vm₁, locs, cells, slots⟩ (Value.ref b :: argsL).toArray q B ∧
      Steps p.tables e below (T.setTop g) ((B.U.setTop { g with stack := rest }).pushFrame (.throwing q))) := by
  obtain ⟨mk, methM, hnamed, hmethM, hstM, habM⟩ := Cond.instanceMethod_spec hinst
  obtain ⟨m8, methM', cM, hn8, hmethM', -, -, -, -, -, -, hsigM⟩ := Cond.codeWith_spec hcode
  cases Option.some.inj (hn8.symm.trans hnamed)
  cases hmethM.symm.trans hmethM'
  obtain ⟨c2, r2, m2, q1, q2, q3, q4, kP, hkP, hkPi⟩ := Cond.selects_spec hsel
  cases hcls.symm.trans q1
  cases (State.methodFound?_of_named hnamed hy).symm.trans q2
  cases hnamed.symm.trans q3
  have hselP : selectMethod e.platform s.vm cellB.cls mk = .method mk := by rw [Launch.admits_selectMethod X.admits]; exact q4
  obtain ⟨vm₁, X₁, hstep₁⟩ := X.invokevirtual hexec hown hlink hnamed hmethM hstM hkP hkPi hy (a := b) (cell := cellB) hcell
    (fun z h => by rw [h] at hobj; cases hobj) hselP hmethM habM hkP hkPi (g := g) hg (argsL := argsL) (rest := rest) (hlen _ hsigM) hstack hdg
  rcases hK m meth c ⟨T.setVm vm₁, locs, cells, slots⟩ { g with stack := rest } (.invokevirtual index) mk (Value.ref b :: argsL).toArray X₁ hg hsize hdg hW (X₁.named hnamed) (hpre vm₁ X₁.warmed) with ⟨v, B, X', hpost, hsteps⟩ | ⟨q, B, X', hpost, hsteps⟩
  · exact Or.inl ⟨v, vm₁, B, X₁.warmed, X', hpost, fun target h => hstep₁ _ fun acts => by rw [doInvoke_state]; exact hsteps.trans h⟩
  · exact Or.inr ⟨q, vm₁, B, X₁.warmed, X', hpost, hstep₁ _ fun acts => by rw [doInvoke_state]; exact hsteps⟩
theorem vx_callSX (X : Stand p l e R s m args below meth c T locs cells slots) (hexec : p.tables.exec = Jvm.exec) {own : String} {index : Nat} {y : MethodName} {bytes : ByteArray} {maxL : Nat} {ret : Option FieldType} {hh : List (Nat × Nat × Nat × Nat)}
    (hown : s.vm.findClass own = some m.cls) (hlink : (Cond.methodLink own index y).before args s = true) (hstat : (Cond.static y).before args s = true) (hinit : (Cond.initialized y.cls).before args s = true)
    (hcode : (Cond.codeWith y bytes maxL ret hh).before args s = true) (hy : y.cls ≠ "java/lang/invoke/MethodHandle" ∧ y.cls ≠ "java/lang/invoke/VarHandle")
    {W9 : Nat} {Pre : Pt → Array Value → Prop} {Post : Pt → Array Value → Option Value → Pt → Prop} {PostX : Pt → Array Value → Addr → Pt → Prop} (hK : vx_Back l R p e below s args y 3 W9 Pre Post PostX)
    {g : JFrame} (hg : g.method = m) (hsize : g.locals.size = c.maxLocals) {argsL rest : List Value} (hlen : ∀ sig, parseMethodDescriptor y.desc = some sig → argsL.length = sig.parameters.length)
    (hstack : g.stack = argsL.reverse ++ rest) (hW : 2 * g.monitorRoom + (rest.map fun v => v.category).sum ≤ W9) (hdg : decode c.code g.pc = .ok (.invokestatic index, 3))
    (hpre : ∀ vm₁, s.WarmedH vm₁ → Pre ⟨T.setVm vm₁, locs, cells, slots⟩ argsL.toArray) :
    (∃ (v : Option Value) (vm₁ : Vm) (B : Pt), s.WarmedH vm₁ ∧ Stand p l e R s m args below meth c B.U B.locs B.cells B.slots ∧ Post ⟨T.setVm vm₁, locs, cells, slots⟩ argsL.toArray v B ∧
      ∀ target, Steps p.tables e below (B.U.setTop { g with pc := g.pc + 3, stack := v.toList ++ rest }) target → Steps p.tables e below (T.setTop g) target) ∨
    (∃ (q : Addr) (vm₁ : Vm) (B : Pt), s.WarmedH vm₁ ∧ Stand p l e R s m args below meth c B.U B.locs B.cells B.slots ∧ PostX ⟨T.setVm vm₁, locs, cells, slots⟩ argsL.toArray q B ∧
      Steps p.tables e below (T.setTop g) ((B.U.setTop { g with stack := rest }).pushFrame (.throwing q))) := by
  obtain ⟨mk, methM, cM, hnamed, hmethM, -, -, -, -, -, -, hsigM⟩ := Cond.codeWith_spec hcode
  have hstatic : methM.isStatic = true := Cond.static_spec hnamed hmethM hstat
  obtain ⟨kP, hkP, -⟩ := className_of_methodNamed hnamed
  have hinitP : kP.init = .initialized := Cond.initialized_spec (findClass_of_methodNamed hnamed) hkP hinit
  obtain ⟨vm₁, X₁, hstep₁⟩ := X.invokestatic hexec hown hlink hnamed hmethM hstatic hkP hinitP hy (g := g) hg (argsL := argsL) (rest := rest) (hlen _ hsigM) hstack hdg
  rcases hK m meth c ⟨T.setVm vm₁, locs, cells, slots⟩ { g with stack := rest } (.invokestatic index) mk argsL.toArray X₁ hg hsize hdg hW (X₁.named hnamed) (hpre vm₁ X₁.warmed) with ⟨v, B, X', hpost, hsteps⟩ | ⟨q, B, X', hpost, hsteps⟩
  · exact Or.inl ⟨v, vm₁, B, X₁.warmed, X', hpost, fun target h => hstep₁ _ fun acts => by rw [doInvoke_state]; exact hsteps.trans h⟩
  · exact Or.inr ⟨q, vm₁, B, X₁.warmed, X', hpost, hstep₁ _ fun acts => by rw [doInvoke_state]; exact hsteps⟩
theorem vx_callVW (X : Stand p l e R s m args below meth c T locs cells slots) (hexec : p.tables.exec = Jvm.exec) {own C : String} {index : Nat} {y : MethodName} {bytes : ByteArray} {maxL : Nat} {ret : Option FieldType} {hh : List (Nat × Nat × Nat × Nat)}
    (hown : s.vm.findClass own = some m.cls) (hlink : (Cond.methodLink own index y).before args s = true) (hinst : (Cond.instanceMethod y).before args s = true) (hsel : (Cond.selects C y y).before args s = true)
    (hcode : (Cond.codeWith y bytes maxL ret hh).before args s = true) (hy : y.cls ≠ "java/lang/invoke/MethodHandle" ∧ y.cls ≠ "java/lang/invoke/VarHandle")
    {W9 : Nat} {Pre : Pt → Array Value → Prop} {Post : Pt → Array Value → Option Value → Pt → Prop} (hK : Back l R p e below s args y 3 W9 Pre Post)
    {b : Addr} {cellB : Cell} (hcell : T.heap[b]? = some cellB) (hobj : cellB.vm.isStatics = false) (hcls : s.vm.findClass C = some cellB.cls)
    {g : JFrame} (hg : g.method = m) (hsize : g.locals.size = c.maxLocals) {argsL rest : List Value} (hlen : ∀ sig, parseMethodDescriptor y.desc = some sig → argsL.length = sig.parameters.length)
    (hstack : g.stack = argsL.reverse ++ .ref b :: rest) (hW : 2 * g.monitorRoom + (rest.map fun v => v.category).sum ≤ W9) (hdg : decode c.code g.pc = .ok (.invokevirtual index, 3))
    (hpre : ∀ vm₁, s.WarmedH vm₁ → Pre ⟨T.setVm vm₁, locs, cells, slots⟩ (Value.ref b :: argsL).toArray) :
    ∃ (v : Option Value) (vm₁ : Vm) (B : Pt), s.WarmedH vm₁ ∧ Stand p l e R s m args below meth c B.U B.locs B.cells B.slots ∧ Post ⟨T.setVm vm₁, locs, cells, slots⟩ (Value.ref b :: argsL).toArray v B ∧
      ∀ target, Steps p.tables e below (B.U.setTop { g with pc := g.pc + 3, stack := v.toList ++ rest }) target → Steps p.tables e below (T.setTop g) target := by
  obtain ⟨mk, methM, hnamed, hmethM, hstM, habM⟩ := Cond.instanceMethod_spec hinst
  obtain ⟨m8, methM', cM, hn8, hmethM', -, -, -, -, -, -, hsigM⟩ := Cond.codeWith_spec hcode
  cases Option.some.inj (hn8.symm.trans hnamed)
  cases hmethM.symm.trans hmethM'
  obtain ⟨c2, r2, m2, q1, q2, q3, q4, kP, hkP, hkPi⟩ := Cond.selects_spec hsel
  cases hcls.symm.trans q1
  cases (State.methodFound?_of_named hnamed hy).symm.trans q2
  cases hnamed.symm.trans q3
  have hselP : selectMethod e.platform s.vm cellB.cls mk = .method mk := by rw [Launch.admits_selectMethod X.admits]; exact q4
  obtain ⟨vm₁, X₁, hstep₁⟩ := X.invokevirtual hexec hown hlink hnamed hmethM hstM hkP hkPi hy (a := b) (cell := cellB) hcell
    (fun z h => by rw [h] at hobj; cases hobj) hselP hmethM habM hkP hkPi (g := g) hg (argsL := argsL) (rest := rest) (hlen _ hsigM) hstack hdg
  obtain ⟨v, B, X', hpost, hsteps⟩ := hK m meth c ⟨T.setVm vm₁, locs, cells, slots⟩ { g with stack := rest } (.invokevirtual index) mk (Value.ref b :: argsL).toArray X₁ hg hsize hdg hW (X₁.named hnamed) (hpre vm₁ X₁.warmed)
  exact ⟨v, vm₁, B, X₁.warmed, X', hpost, fun target h => hstep₁ _ fun acts => by rw [doInvoke_state]; exact hsteps.trans h⟩
abbrev vx_CVW (R : Room) (s : State) (args : Array Value) (own C : String) (index : Nat) (y : MethodName) (bytes : ByteArray) (maxL : Nat) (ret : Option FieldType) (hh : List (Nat × Nat × Nat × Nat)) (ws : List Cond) (rm : Room) (mc ms n : Nat) : Prop :=
  (rm.cells = mc ∧ rm.slots = ms ∧ rm.frames + 1 ≤ R.frames ∧ 8 + (maxL + 11) + rm.locals ≤ R.locals ∧ (∀ w ∈ ws, ∀ (a' : Array Value) (U : State), s.WarmedH U.vm → w.before a' U = true) ∧ Cond.codeWith y bytes maxL ret hh ∈ ws) ∧
  (Cond.codeWith y bytes maxL ret hh).before args s = true ∧ (Cond.initialized y.cls).before args s = true ∧ (y.cls ≠ "java/lang/invoke/MethodHandle" ∧ y.cls ≠ "java/lang/invoke/VarHandle") ∧
  (∀ sig, parseMethodDescriptor y.desc = some sig → n = sig.parameters.length) ∧ (Cond.methodLink own index y).before args s = true ∧ (Cond.instanceMethod y).before args s = true ∧ (Cond.selects C y y).before args s = true
theorem vx_cwVW {own C : String} {index maxL mc ms : Nat} {y : MethodName} {bytes : ByteArray} {ret : Option FieldType} {hh : List (Nat × Nat × Nat × Nat)} {Ts ws ws' : List Cond} {rm : Room} (n : Nat) (ht : ∀ w ∈ Ts, w.before args s = true) (hT : GoodIn Ts (wsV own index C y ws)) (hw : ws = Cond.codeWith y bytes maxL ret hh :: ws') (hrc : rm.cells = mc) (hrs : rm.slots = ms)
    (hd : y.cls = C ∧ y.cls ≠ "java/lang/invoke/MethodHandle" ∧ y.cls ≠ "java/lang/invoke/VarHandle" ∧ (parseMethodDescriptor y.desc).map (fun d => d.parameters.length) = some n) (hR : rm.frames + 1 ≤ R.frames ∧ 8 + (maxL + 11) + rm.locals ≤ R.locals) :
    vx_CVW R s args own C index y bytes maxL ret hh ws rm mc ms n := by
  obtain ⟨hC, hd⟩ := hd
  subst hC
  have ok : ∀ w ∈ wsV own index y.cls y ws, w.before args s = true := fun w h => ht w (hT w h).1
  have hG : GoodIn Ts ws := fun w h => hT w (by unfold wsV; exact List.mem_append_right _ h)
  have hc : Cond.codeWith y bytes maxL ret hh ∈ ws := by rw [hw]; exact List.mem_cons_self
  refine ⟨⟨hrc, hrs, hR.1, hR.2, pay_in ht hG, hc⟩, ht _ (hG _ hc).1, ok _ (by simp [wsV]), ⟨hd.1, hd.2.1⟩, fun sig h => ?_, ok _ (by simp [wsV]), ok _ (by simp [wsV]), ok _ (by simp [wsV])⟩
  have h2 := hd.2.2
  rw [h] at h2
  exact (Option.some.inj h2).symm
theorem vx_runVW {y : MethodName} {bytes cc : ByteArray} {maxL nL mc ms n index : Nat} {ret : Option FieldType} {hh : List (Nat × Nat × Nat × Nat)} {ws : List Cond} {rm : Room} {Pc : Array Value → State → Prop} {Qc : Array Value → State → Outcome → State → Prop} {free : Addr → Prop} {Ts : List Cond} {own C : String} {b : Addr} {As rest : List Value} {g : JFrame}
    (S : CallFix p m c cc nL s args Ts own) (hM : Met l y ws rm Pc Qc mc ms free) (cw : vx_CVW R s args own C index y bytes maxL ret hh ws rm mc ms n) (hp : PreV s H C b Pc As)
    (hg : g.method = m) (hn : As.length = n) (hsize : g.locals.size = nL) (hstack : g.stack = As.reverse ++ .ref b :: rest) (hW : 2 * g.monitorRoom + (rest.map fun v => v.category).sum ≤ 8) (hdg : decode cc g.pc = .ok (.invokevirtual index, 3)) (hf : cells + mc ≤ R.cells ∧ slots + ms ≤ R.slots) :
    va_Run p l e R s m args below meth c H locs cells slots mc ms g rest (Qc (Value.ref b :: As).toArray) free := by
  obtain ⟨⟨hrc, hrs, hfr, hlo, hws, hcw⟩, hcode, hini, hy, hlen, hl, hin, hse⟩ := cw
  have hK : Back l R p e below s args y 3 8 (PreOf R mc ms Pc) (PostOf Qc mc ms free) := va_backW (hh := hh) (bytes := bytes) (maxL := maxL) (ret := ret) hM hp.1 hrc hrs hfr hlo hws hcw (fun a' U hW => word_at hW (Or.inl (by first | rfl | simp [Cond.onTables, Cond.keeps, Cond.steady])) hini)
  obtain ⟨hx, hb, hml, ho, -⟩ := S
  obtain ⟨-, ⟨cellB, hcB, hoB, hclB⟩, hPc⟩ := hp
  intro T hT X
  obtain ⟨v, vm₁, ⟨U', l2, c2, s2⟩, hW₁, X', ⟨g', mk, t, L, e1, e2, hq, h1, hL, h2, h3⟩, st⟩ := vx_callVW X hx (C := C) (hh := hh) (bytes := bytes) (maxL := maxL) (ret := ret) ho hl hin hse hcode hy hK (by rw [hT]; exact hcB) hoB hclB hg (hsize.trans hml.symm) (argsL := As) (rest := rest) (fun sig h => hn.trans (hlen sig h)) hstack hW (by rw [hb]; exact hdg)
    (fun vm₁ hW₁ => ⟨hf.1, hf.2, hPc (T.setVm vm₁) hT hW₁⟩)
  dsimp only [Pt.U, Pt.locs, Pt.cells, Pt.slots] at X' e1 e2 h1 h2 h3 st
  subst h1; subst h2; subst h3
  exact ⟨v, (T.setVm vm₁).calling g' mk (Value.ref b :: As).toArray, t, U', L, hT, X', hL, e1, e2, hq, st⟩
section
variable {y : MethodName} {bytes cc : ByteArray} {maxL nL mc ms n index : Nat} {ret : Option FieldType} {ws : List Cond} {rm : Room} {Pc : Array Value → State → Prop} {Qc : Array Value → State → Outcome → State → Prop} {XC : String → State → State → Prop} {free : Addr → Prop} {Ts : List Cond} {own C : String} {b : Addr} {As rest : List Value} {g : JFrame}
theorem vx_runVX {hh : List (Nat × Nat × Nat × Nat)} (S : CallFix p m c cc nL s args Ts own) (hM : vx_Met l y ws rm Pc Qc XC mc ms free) (cw : vx_CVW R s args own C index y bytes maxL ret hh ws rm mc ms n) (hp : PreV s H C b Pc As)
    (hg : g.method = m) (hn : As.length = n) (hsize : g.locals.size = nL) (hstack : g.stack = As.reverse ++ .ref b :: rest) (hW : 2 * g.monitorRoom + (rest.map fun v => v.category).sum ≤ 8) (hdg : decode cc g.pc = .ok (.invokevirtual index, 3)) (hf : cells + mc ≤ R.cells ∧ slots + ms ≤ R.slots) :
    vx_Run p l e R s m args below meth c H locs cells slots mc ms g rest (Qc (Value.ref b :: As).toArray) XC free := by
  obtain ⟨⟨hrc, hrs, hfr, hlo, hws, hcw⟩, hcode, hini, hy, hlen, hl, hin, hse⟩ := cw
  have hK : vx_Back l R p e below s args y 3 8 (PreOf R mc ms Pc) (PostOf Qc mc ms free) (vx_Post XC mc ms free) := vx_backW (hh := hh) (bytes := bytes) (maxL := maxL) (ret := ret) hM hp.1 hrc hrs hfr hlo hws hcw (fun a' U hW => word_at hW (Or.inl (by first | rfl | simp [Cond.onTables, Cond.keeps, Cond.steady])) hini)
  obtain ⟨hx, hb, hml, ho, -⟩ := S
  obtain ⟨-, ⟨cellB, hcB, hoB, hclB⟩, hPc⟩ := hp
  intro T hT X
  rcases vx_callVX X hx (C := C) (hh := hh) (bytes := bytes) (maxL := maxL) (ret := ret) ho hl hin hse hcode hy hK (by rw [hT]; exact hcB) hoB hclB hg (hsize.trans hml.symm) (argsL := As) (rest := rest) (fun sig h => hn.trans (hlen sig h)) hstack hW (by rw [hb]; exact hdg)
    (fun vm₁ hW₁ => ⟨hf.1, hf.2, hPc (T.setVm vm₁) hT hW₁⟩) with ⟨v, vm₁, ⟨U', l2, c2, s2⟩, hW₁, X', ⟨g', mk, t, L, e1, e2, hq, h1, hL, h2, h3⟩, st⟩ | ⟨q, vm₁, ⟨U', l2, c2, s2⟩, hW₁, X', ⟨g', mk, t, L, E, ce, e1, e2, hq, hce, hcv, hcl, h1, hL, h2, h3⟩, st⟩
  · dsimp only [Pt.U, Pt.locs, Pt.cells, Pt.slots] at X' e1 e2 h1 h2 h3 st
    subst h1; subst h2; subst h3
    exact Or.inl ⟨v, (T.setVm vm₁).calling g' mk (Value.ref b :: As).toArray, t, U', L, hT, X', hL, e1, e2, hq, st⟩
  · dsimp only [Pt.U, Pt.locs, Pt.cells, Pt.slots] at X' e1 e2 h1 h2 h3 st hcl
    subst h1; subst h2; subst h3
    exact Or.inr ⟨q, (T.setVm vm₁).calling g' mk (Value.ref b :: As).toArray, t, U', L, E, ce, hT, X', hL, e1, e2, hq, hce, hcv, vx_cls hW₁ hcl, st⟩
theorem vx_runSX {hh : List (Nat × Nat × Nat × Nat)} (S : CallFix p m c cc nL s args Ts own) (hM : vx_Met l y ws rm Pc Qc XC mc ms free) (cw : vx_CSW R s args own index y bytes maxL ret hh ws rm mc ms n) (hp : PreS s H Pc As)
    (hg : g.method = m) (hn : As.length = n) (hsize : g.locals.size = nL) (hstack : g.stack = As.reverse ++ rest) (hW : 2 * g.monitorRoom + (rest.map fun v => v.category).sum ≤ 8) (hdg : decode cc g.pc = .ok (.invokestatic index, 3)) (hf : cells + mc ≤ R.cells ∧ slots + ms ≤ R.slots) :
    vx_Run p l e R s m args below meth c H locs cells slots mc ms g rest (Qc As.toArray) XC free := by
  obtain ⟨⟨hrc, hrs, hfr, hlo, hws, hcw⟩, hcode, hini, hy, hlen, hl, hstt⟩ := cw
  have hK : vx_Back l R p e below s args y 3 8 (PreOf R mc ms Pc) (PostOf Qc mc ms free) (vx_Post XC mc ms free) := vx_backW (hh := hh) (bytes := bytes) (maxL := maxL) (ret := ret) hM hp.1 hrc hrs hfr hlo hws hcw (fun a' U hW => word_at hW (Or.inl (by first | rfl | simp [Cond.onTables, Cond.keeps, Cond.steady])) hini)
  obtain ⟨hx, hb, hml, ho, -⟩ := S
  intro T hT X
  rcases vx_callSX X hx (hh := hh) (bytes := bytes) (maxL := maxL) (ret := ret) ho hl hstt hini hcode hy hK hg (hsize.trans hml.symm) (argsL := As) (rest := rest) (fun sig h => hn.trans (hlen sig h)) hstack hW (by rw [hb]; exact hdg)
    (fun vm₁ hW₁ => ⟨hf.1, hf.2, hp.2 (T.setVm vm₁) hT hW₁⟩) with ⟨v, vm₁, ⟨U', l2, c2, s2⟩, hW₁, X', ⟨g', mk, t, L, e1, e2, hq, h1, hL, h2, h3⟩, st⟩ | ⟨q, vm₁, ⟨U', l2, c2, s2⟩, hW₁, X', ⟨g', mk, t, L, E, ce, e1, e2, hq, hce, hcv, hcl, h1, hL, h2, h3⟩, st⟩
  · dsimp only [Pt.U, Pt.locs, Pt.cells, Pt.slots] at X' e1 e2 h1 h2 h3 st
    subst h1; subst h2; subst h3
    exact Or.inl ⟨v, (T.setVm vm₁).calling g' mk As.toArray, t, U', L, hT, X', hL, e1, e2, hq, st⟩
  · dsimp only [Pt.U, Pt.locs, Pt.cells, Pt.slots] at X' e1 e2 h1 h2 h3 st hcl
    subst h1; subst h2; subst h3
    exact Or.inr ⟨q, (T.setVm vm₁).calling g' mk As.toArray, t, U', L, E, ce, hT, X', hL, e1, e2, hq, hce, hcv, vx_cls hW₁ hcl, st⟩
end
end VXH
theorem vx_ofWH {l : Launch} {y : MethodName} {ws ws' : List Cond} {rm : Room} {Pc : Array Value → State → Prop} {Qc : Array Value → State → Outcome → State → Prop} {XC : String → State → State → Prop} {mc ms : Nat} {free : Addr → Prop} {cc : ByteArray} {maxL : Nat} {ret : Option FieldType} {hh : List (Nat × Nat × Nat × Nat)}
    (hy : plainName y.cls = true) (hw : ws = Cond.codeWith y cc maxL ret hh :: ws')
    (body : ∀ p e s m args below meth c s₁, BodyLoose p l y (headSpec ws rm) cc maxL ret e s m args below meth c s₁ → c.maxLocals = maxL → Pc args s →
      W p l e (headSpec ws rm).room s m args below meth c s.heap [] 0 0 (vx_MQ below Qc XC args s mc ms free) (entryFrame m args maxL)) : vx_Met l y ws rm Pc Qc XC mc ms free := by
  refine MetFree.of_bodyS (code := cc) (maxLocals := maxL) (ret := ret) hy ?_ ?_
  · intro args s m h hn
    obtain ⟨m9, meth, c, hn9, h1, h2, h3, h4, -, h5, h6, -⟩ := Cond.codeWith_spec (atoms_spec (ws := ws) h _ (by rw [hw]; exact List.mem_cons_self))
    cases hn.symm.trans hn9
    exact ⟨meth, c, h1, h2, h3, h4, h5, h6⟩
  · intro p e s m args below meth c s₁ B hml hP _
    have hh0 : s₁.heap = s.heap := by rw [B.state]; rfl
    obtain ⟨t, a1, o, b1, b2, b3⟩ := body p e s m args below meth c s₁ B hml hP s₁ hh0 (Stand.of_body B)
    exact ⟨t, o, a1, b1, b2, b3⟩
/-! ===== END ===== -/
/-! ===== BEGIN what the machine throws by itself, no traces kept ===== -/
section VXM
set_option maxHeartbeats 1000000 in
/-- the machine throws cls with the message text, no traces kept: from its note over the frame g to 'throwing' over the same frame (follows the proofs of Stand.vmThrowsMessage, Shelf/KitTracedVmS.lean, and Stand.throwsMessageColdBareV, StandMessageColdV.lean, without the step out of the frame) -/
theorem vx_vmAt {p : Program} {l : Launch} {e : Env} {R : Room} {s : State} {m₀ : MethodId} {args : Array Value} {below : List Frame} {meth : Method} {c : Code} {W : State} {locs : List Loc} {cells slots : Nat}
    (X : Stand p l e R s m₀ args below meth c W locs cells slots) (hexec : p.tables.exec = Jvm.exec) (htr : e.platform.stackTraces = false) {cls : String} {names : List String} {text : String}
    (hcls : Bundle.fit cls = true) (hnames : ∀ n ∈ names, Bundle.fit n = true) (hsoe : (cls == "java/lang/StackOverflowError") = false) (hoom : (cls == "java/lang/OutOfMemoryError") = false)
    (h : ∀ a ∈ Bundle.messageArmAtoms cls names, a.before args s = true)
    (hlocs : ∀ x ∈ locs, ∀ cell, s.heap[x.base]? = some cell → cell.vm.isStatics = false)
    (htext : (text == notModelled) = false) (hlimit : ¬ (stringBytes (stringToUtf16 text)).size > e.platform.arrayLengthLimit) (hheap : ¬ (stringBytes (stringToUtf16 text)).size * componentBytes .byte > e.platform.maxHeapBytes)
    {g : JFrame} (hg : g.method = m₀) (hsize : g.locals.size = c.maxLocals)
    (hRframes : names.length + 4 < R.frames) (hRlocals : 2 * g.monitorRoom + (g.stack.map fun v => v.category).sum + 10240 ≤ R.locals) (hshort : 13 * names.length + 55 ≤ 10240)
    (hRcells : cells + 3 ≤ R.cells) (hRslots : slots + ((stringBytes (stringToUtf16 text)).size + 4 + 6) ≤ R.slots) (hlocks : meth.locks = false) :
    ∃ (S : State) (q : Addr) (ce : Cell), (∀ target, Steps p.tables e below ((S.setTop g).pushFrame (.throwing q)) target → Steps p.tables e below ((W.setTop g).pushFrame (.throwNew cls (some text) none)) target) ∧
      Stand p l e R s m₀ args below meth c S locs (cells + 3) (slots + ((stringBytes (stringToUtf16 text)).size + 4 + 6)) ∧ S.heap[q]? = some ce ∧ s.vm.findClass cls = some ce.cls ∧ ce.vm = .none := by
  have howns : e.platform.frameOwnsMonitors = true := by rw [X.admits.platform]
  have hfin : e.platform.finalization = false := by rw [X.admits.platform]
  have hpl : e.platform.magicAccessors = ({} : Platform).magicAccessors := by rw [X.admits.platform]
  have a : ∀ x, x ∈ Bundle.messageArmAtoms cls names → x.holds args s none s [] = true := fun x hx => h x hx
  obtain ⟨T, Z0, L, -, Y⟩ := ThrowableC.of_atoms (args := args) howns hfin hpl (fun x hx => h x (by simp [Bundle.messageArmAtoms, hx]))
  obtain ⟨Z, M, LZ, LM, hnZ⟩ := Init0T.ofS_atoms (args := args) hpl L Y (fun x hx => h x (by simp [Bundle.messageArmAtoms, hx]))
  obtain ⟨P1, Ps, hlen, L1, hL, hP1m, hlink1, hlink⟩ := Bundle.chainS (args := args) hpl hnZ names cls hcls hnames (fun x hx => h x (by simp [Bundle.messageArmAtoms, hx]))
  obtain ⟨Zs, LZs, hn4, hfitv, hfitc⟩ := StringT.of_atoms (args := args) (fun x hx => h x (by simp [Bundle.messageArmAtoms, hx]))
  have hfound : s.vm.findClass cls = some P1.m.cls := findClass_of_methodNamed hP1m
  obtain ⟨c1, kX, hc1, hk, hord, -, -, hn6⟩ := Cond.instantiable_spec (a (.instantiable cls 6) (by simp [Bundle.messageArmAtoms]))
  cases Option.some.inj (hc1.symm.trans hfound)
  have hinit := Cond.initialized_spec hfound hk (a (.initialized cls) (by simp [Bundle.messageArmAtoms]))
  have hctor : kX.findMethod "<init>" "(Ljava/lang/String;)V" = some P1.m.idx := findMethod_of_methodNamed hP1m hk
  have hsel0 : selectMethod e.platform s.vm P1.m.cls T.fill0 = .method T.fill0 := by
    obtain ⟨c2, r2, m2, q1, q2, q3, q4, -⟩ := Cond.selects_spec (a (.selects cls Bundle.tFill0 Bundle.tFill0) (by simp [Bundle.messageArmAtoms]))
    cases Option.some.inj (q1.symm.trans hfound)
    cases Option.some.inj (q2.symm.trans (State.methodFound?_of_named Y.fill0 (by decide)))
    cases Option.some.inj (q3.symm.trans Y.fill0)
    rw [Launch.admits_selectMethod X.admits]; exact q4
  have hselF : selectMethod e.platform s.vm P1.m.cls T.fill = .method T.fill := by
    obtain ⟨c2, r2, m2, q1, q2, q3, q4, -⟩ := Cond.selects_spec (a (.selects cls Bundle.tFill Bundle.tFill) (by simp [Bundle.messageArmAtoms]))
    cases Option.some.inj (q1.symm.trans hfound)
    cases Option.some.inj (q2.symm.trans (State.methodFound?_of_named Y.fill (by decide)))
    cases Option.some.inj (q3.symm.trans Y.fill)
    rw [Launch.admits_selectMethod X.admits]; exact q4
  obtain ⟨cellS0, hcS0, hiss⟩ := Y.statics
  obtain ⟨u0, hu0⟩ := Cond.staticRefV Y.unassigned L.unassignedStatic L.statics hcS0 hiss (a (.isRef (.static Bundle.tN "UNASSIGNED_STACK" Bundle.steD)) (by simp [Bundle.messageArmAtoms]))
  obtain ⟨sen, hsen⟩ := Cond.staticRefV Y.sentinel L.sentinelStatic L.statics hcS0 hiss (a (.isRef (.static Bundle.tN "SUPPRESSED_SENTINEL" Bundle.listD)) (by simp [Bundle.messageArmAtoms]))
  obtain ⟨ci198, i198, fB, hk198, hg198, ha198, hsB, -, hnB, htB, hffB⟩ := Cond.ownField (t := .object "java/lang/Object") Y.found L.cls (by decide +kernel) (a (.fieldLink Bundle.tN 198 Bundle.tN "backtrace" "Ljava/lang/Object;") (by simp [Bundle.messageArmAtoms])) (a (.lays Bundle.tN Bundle.tN "backtrace" "Ljava/lang/Object;") (by simp [Bundle.messageArmAtoms])) e.platform hpl
  obtain ⟨cellS, hcS', heS, -, hkeep⟩ := X.same.2.2.2.2.2 T.aS cellS0 hcS0
  have hcellS : W.heap[T.aS]? = some cellS := hcS'
  have hout' : ∀ i, (⟨T.aS, i⟩ : Loc) ∉ locs := fun i hmem => by
    have := hlocs _ hmem cellS0 hcS0
    rw [hiss] at this; cases this
  have hknownS : cellS.vm ≠ .unknown := by
    rw [heS]; intro hu
    rw [show cellS0.vm = .unknown from hu] at hiss
    cases hiss
  have hvU : cellS.slots[T.fUnassigned.slot]? = some u0.v := by rw [hkeep _ (hout' _)]; exact hu0
  have hvSen : cellS.slots[T.fSentinel.slot]? = some sen.v := by rw [hkeep _ (hout' _)]; exact hsen
  obtain ⟨iM, hffM⟩ := Y.msg
  obtain ⟨tyC, dC, hdC, hdnC⟩ := Cond.laysAt hfound hk Y.cause (a (.lays cls Bundle.tN "cause" "Ljava/lang/Throwable;") (by simp [Bundle.messageArmAtoms]))
  obtain ⟨tyS, dS, hdS, hdnS⟩ := Cond.laysAt hfound hk Y.stack (a (.lays cls Bundle.tN "stackTrace" Bundle.steD) (by simp [Bundle.messageArmAtoms]))
  obtain ⟨tyP, dP, hdP, hdnP⟩ := Cond.laysAt hfound hk Y.supp (a (.lays cls Bundle.tN "suppressedExceptions" Bundle.listD) (by simp [Bundle.messageArmAtoms]))
  obtain ⟨tyM, dM, hdM, hdnM⟩ := Cond.laysAt hfound hk hffM (a (.lays cls Bundle.tN "detailMessage" "Ljava/lang/String;") (by simp [Bundle.messageArmAtoms]))
  obtain ⟨tyB, dB, hdB, hdnB⟩ := Cond.laysAt hfound hk hffB (a (.lays cls Bundle.tN "backtrace" "Ljava/lang/Object;") (by simp [Bundle.messageArmAtoms]))
  have bC := Cond.laysApart hdB hdC hdnB hdnC (by rw [hnB, Y.causeName]; decide)
  have bS := Cond.laysApart hdB hdS hdnB hdnS (by rw [hnB, Y.stackName]; decide)
  have bP := Cond.laysApart hdB hdP hdnB hdnP (by rw [hnB, Y.suppName]; decide)
  have hbk : ((preparedCellV T.toThrowableT (freshCell P1.m.cls kX) (W.heap.size + 2) u0 sen).withEntry W.cur).slots[fB.slot]? = some .null := by
    have := fresh_default (c := P1.m.cls) tyB
    rw [htB] at this
    simpa [preparedCellV, Cell.setSlot, Cell.withEntry, Array.getElem?_setIfInBounds, bC, bS, bP, bC.symm, bS.symm, bP.symm, defaultValue] using this
  have tkC := Takes.of_laid (v := .ref (W.heap.size + 2)) hk hord tyC (by rw [Y.causeType]; rfl)
  have tkS := Takes.of_laid (v := u0.v) hk hord tyS (by rw [Y.stackType]; exact fits_refV_array _ u0)
  have tkP := Takes.of_laid (v := sen.v) hk hord tyP (by rw [Y.suppType]; exact fits_refV_object _ sen)
  have tkM := Takes.of_laid (v := .ref (W.heap.size + 1)) hk hord tyM (by rw [Y.msgType]; rfl)
  have hskip : SkipFacts T e.platform s (fun u => u) u0 ((preparedCellV T.toThrowableT (freshCell P1.m.cls kX) (W.heap.size + 2) u0 sen).withEntry W.cur) := ⟨{ ci198 := ci198, i198 := i198, fBack := fB }, ⟨hk198, hg198, ha198, hsB⟩, hbk, fun _ _ => rfl⟩
  have h0 : At W g.method c below := by rw [hg]; exact X.here
  obtain ⟨hbeyond, hfreeW⟩ := X.vmMayThrow hsize (.throwNew cls (some text) none) (fun f hf => by cases hf) rfl hRlocals
  have hfr' : W.frames.length + Ps.length + 4 < (e.platform.stackLimits W.me).1 := by have := X.framesAbove hRframes; omega
  have hwd' : (stackUse (.java g :: W.frames.tail)).2 + 13 * Ps.length + 55 ≤ (e.platform.stackLimits W.me).2 := by have := X.stackAbove hsize (K := 13 * Ps.length + 55) (by omega); omega
  have hslots : W.slotsUsed + (stringBytes (stringToUtf16 text)).size + Zs.kS.instanceTypes.size + kX.instanceTypes.size ≤ e.platform.maxSlots := by
    have := X.slotsAbove hRslots
    rw [hn4, hn6]
    omega
  obtain ⟨vm', hW', st⟩ := Steps.vmThrowsMessageColdByV p (s₀ := s) (S := W) (g := g) h0 hexec T L Z LZ M LM X.warmed (t := W.cur) rfl Zs LZs P1 L1 Ps hL hlink1 hlink hsoe hoom hfound hk hinit hord hctor
    (Launch.admits_hotImplicitExceptions X.admits) hbeyond hfreeW htext hlimit hheap (X.cellsAbove hRcells) hslots (hfitv _) (hfitc _)
    (Nn := fun u => u) heapOnly_id (fun _ _ => rfl) (fun _ => rfl) (fun u x y => setCell_twice _ _ _ _) (fun _ => Nat.le_refl _) (cN := ((preparedCellV T.toThrowableT (freshCell P1.m.cls kX) (W.heap.size + 2) u0 sen).withEntry W.cur))
    hsel0 hcellS hknownS hvU tkS (fun _ hu => hu) (fun _ hu => hu) rfl rfl rfl (by simp [preparedCellV, Cell.setSlot, Cell.withEntry]) hskip (fun _ _ hA hW _ hroom _ hrest => L.nativeOff p htr hA hW hroom hrest) hselF hvSen tkC tkP tkM Y.objLocals rfl hfr' hwd'
  rw [plainBareV_eq T.toThrowableT (W.heap.size + 2) u0 sen (.ref (W.heap.size + 1)) W.cur rfl rfl] at st
  obtain ⟨-, -, w3, w4, -, -, -⟩ := withThrown_facts e.platform W Zs text P1.m.cls kX
  have X3 := ((X.pushed (bytesOf Zs.cB (stringToUtf16 text))).pushed (stringAt Zs.cS Zs.kS Zs.fv Zs.fc (stringToUtf16 text) W.heap.size)).pushed (freshCell P1.m.cls kX)
  rw [← withString_eq] at X3
  have X4 := X3.noted hW'
  have ha : (W.heap.size + 2) < ((withThrown W Zs text P1.m.cls kX).setVm vm').heap.size := by show _ < (withThrown W Zs text P1.m.cls kX).heap.size; rw [w3]; omega
  have hcell : ((withThrown W Zs text P1.m.cls kX).setVm vm').heap[(W.heap.size + 2)]? = some (freshCell P1.m.cls kX) := w4
  have X5 := ((((X4.stored hcell T.fCause.slot (.ref (W.heap.size + 2))).storedAgain ha T.fStack.slot u0.v).storedAgain ha T.fSupp.slot sen.v).storedAgain ha T.fStack.slot u0.v).storedAgain ha T.fMsg.slot (.ref (W.heap.size + 1))
  obtain ⟨g₁, hfrM⟩ := X5.frames_eq
  have hU : ((((withThrown W Zs text P1.m.cls kX).setVm vm').setCell (W.heap.size + 2) (plainBareV T.toThrowableT (freshCell P1.m.cls kX) (W.heap.size + 2) u0 sen (.ref (W.heap.size + 1)))).setTop g).pushFrame (.throwing (W.heap.size + 2)) = (((withThrown W Zs text P1.m.cls kX).setVm vm').setCell (W.heap.size + 2) (plainBareV T.toThrowableT (freshCell P1.m.cls kX) (W.heap.size + 2) u0 sen (.ref (W.heap.size + 1)))).setFrames (.throwing (W.heap.size + 2) :: .java g :: below) := by
    rw [State.pushFrame, State.frames_setTop _ hfrM, State.setTop_of_frames _ hfrM, State.setFrames_setFrames]
  have b1 : (bytesOf Zs.cB (stringToUtf16 text)).slots.size = (stringBytes (stringToUtf16 text)).size := by
    rw [(Cell.writeAll_facts _ _).2.2]; simp [bytes0]
  have b2 : (stringAt Zs.cS Zs.kS Zs.fv Zs.fc (stringToUtf16 text) W.heap.size).slots.size = 4 := by simp [string0, Cell.setSlot, hn4]
  have b3 : (freshCell P1.m.cls kX).slots.size = 6 := by simp [hn6]
  rw [b1, b2, b3] at X5
  have e9 : slots + (stringBytes (stringToUtf16 text)).size + 4 + 6 = slots + ((stringBytes (stringToUtf16 text)).size + 4 + 6) := by omega
  rw [e9] at X5
  simp only [List.append_assoc, List.cons_append, List.nil_append] at X5
  refine ⟨((withThrown W Zs text P1.m.cls kX).setVm vm').setCell (W.heap.size + 2) (plainBareV T.toThrowableT (freshCell P1.m.cls kX) (W.heap.size + 2) u0 sen (.ref (W.heap.size + 1))), W.heap.size + 2, _, fun target ht => st _ (by rw [X.tail, ← hU]; exact ht),
    X5.forget (fun y hy => ?_), heapAt_setCell_self _ ha, hfound, rfl⟩
  simp only [List.mem_cons, List.not_mem_nil, or_false] at hy
  have hge : s.heap.size ≤ W.heap.size := X.same.2.1
  rcases hy with rfl | rfl | rfl | rfl | rfl <;> exact Nat.le_trans hge (Nat.le_add_right _ 2)
set_option maxHeartbeats 1000000 in
/-- the machine throws NullPointerException, no traces kept: from its note over the frame g to 'throwing' over the same frame (follows the proof of Stand.vmThrowsNpe, Shelf42/KT2.lean; throwsNpeColdBareVAt, Shelf42/NT91.lean, called) -/
theorem vx_npeAt {p : Program} {l : Launch} {e : Env} {R : Room} {s : State} {m₀ : MethodId} {args : Array Value} {below : List Frame} {meth : Method} {c : Code} {W : State} {locs : List Loc} {cells slots : Nat}
    (X : Stand p l e R s m₀ args below meth c W locs cells slots) (hexec : p.tables.exec = Jvm.exec) (htr : e.platform.stackTraces = false) {n : Nat}
    (h : ∀ a ∈ Bundle.npeArmAtoms n, a.before args s = true)
    (hlocs : ∀ x ∈ locs, ∀ cell, s.heap[x.base]? = some cell → cell.vm.isStatics = false)
    {g : JFrame} (hg : g.method = m₀) (hsize : g.locals.size = c.maxLocals)
    (hRframes : 7 < R.frames) (hRlocals : 2 * g.monitorRoom + (g.stack.map fun v => v.category).sum + 10240 ≤ R.locals)
    (hRcells : cells + 1 ≤ R.cells) (hRslots : slots + n ≤ R.slots) (hlocks : meth.locks = false) :
    ∃ (S : State) (q : Addr) (ce : Cell), (∀ target, Steps p.tables e below ((S.setTop g).pushFrame (.throwing q)) target → Steps p.tables e below ((W.setTop g).pushFrame (.throwNew "java/lang/NullPointerException" none none)) target) ∧
      Stand p l e R s m₀ args below meth c S locs (cells + 1) (slots + n) ∧ S.heap[q]? = some ce ∧ s.vm.findClass "java/lang/NullPointerException" = some ce.cls ∧ ce.vm = .none := by
  have howns : e.platform.frameOwnsMonitors = true := by rw [X.admits.platform]
  have hfin : e.platform.finalization = false := by rw [X.admits.platform]
  have hpl : e.platform.magicAccessors = ({} : Platform).magicAccessors := by rw [X.admits.platform]
  have hpl2 : e.platform.arrayCloneIsPublic = true := by rw [X.admits.platform]
  have a' : ∀ x, x ∈ Bundle.npeArmAtoms n → x.holds args s none s [] = true := fun x hx => h x hx
  obtain ⟨T, Z, L, LZ, Y⟩ := ThrowableC.of_atoms (args := args) howns hfin hpl (fun x hx => h x (by simp [Bundle.npeArmAtoms, hx]))
  obtain ⟨N, LN, hcN, hnNF, hordN, hffS⟩ := NpeC.of_atoms (args := args) hpl hpl2 L Y (fun x hx => h x (by simp [Bundle.npeArmAtoms, hx]))
  obtain ⟨P1, L1, hP1m, hP1s⟩ := PassC.of_atoms (args := args) (s := s) hpl (X := Bundle.nN) (Y := Bundle.rN) (by decide) (by decide) LibCode.NullPointerException.Init0.at_0 LibCode.NullPointerException.Init0.at_1 LibCode.NullPointerException.Init0.at_4 (fun x hx => h x (by simp [Bundle.npeArmAtoms, hx]))
  obtain ⟨PR, LR, hPRm, hPRs⟩ := PassC.of_atoms (args := args) (s := s) hpl (X := Bundle.rN) (Y := Bundle.eN) (by decide) (by decide) LibCode.RuntimeException.Init0.at_0 LibCode.RuntimeException.Init0.at_1 LibCode.RuntimeException.Init0.at_4 (fun x hx => h x (by simp [Bundle.npeArmAtoms, hx]))
  obtain ⟨PE, LEx, hPEm, hPEs⟩ := PassC.of_atoms (args := args) (s := s) hpl (X := Bundle.eN) (Y := Bundle.tN) (by decide) (by decide) LibCode.Exception.Init0.at_0 LibCode.Exception.Init0.at_1 LibCode.Exception.Init0.at_4 (fun x hx => h x (by simp [Bundle.npeArmAtoms, hx]))
  have hfound : s.vm.findClass Bundle.nN = some P1.m.cls := findClass_of_methodNamed hP1m
  have ecls : N.cN = P1.m.cls := Option.some.inj (hcN.symm.trans hfound)
  have hk : s.vm.classes[P1.m.cls]? = some N.kN := by rw [← ecls]; exact LN.cls
  have hinit := Cond.initialized_spec hfound hk (a' (.initialized Bundle.nN) (by simp [Bundle.npeArmAtoms]))
  have hctor : N.kN.findMethod "<init>" "()V" = some P1.m.idx := findMethod_of_methodNamed hP1m hk
  obtain ⟨c1, k1, hc1, hk1, -, -, -, hn⟩ := Cond.instantiable_spec (a' (.instantiable Bundle.nN n) (by simp [Bundle.npeArmAtoms]))
  cases Option.some.inj (hc1.symm.trans hfound)
  cases Option.some.inj (hk1.symm.trans hk)
  have hfsz : (freshCell P1.m.cls N.kN).slots.size = n := by simp [hn]
  have hlink1 : P1.sup = PR.m := Option.some.inj (hP1s.symm.trans hPRm)
  have hlinkR : PR.sup = PE.m := Option.some.inj (hPRs.symm.trans hPEm)
  have hlinkE : PE.sup = Z.m T.toThrowableT := Option.some.inj (hPEs.symm.trans Y.init0)
  have hLs : ∀ P, P ∈ [PR, PE] → P.Links0 e.platform s := fun P hP => by
    simp only [List.mem_cons, List.not_mem_nil, or_false] at hP
    rcases hP with rfl | rfl
    · exact LR
    · exact LEx
  have hsel0 : selectMethod e.platform s.vm P1.m.cls T.fill0 = .method T.fill0 := by
    obtain ⟨c2, r2, m2, q1, q2, q3, q4, -⟩ := Cond.selects_spec (a' (.selects Bundle.nN Bundle.tFill0 Bundle.tFill0) (by simp [Bundle.npeArmAtoms]))
    cases Option.some.inj (q1.symm.trans hfound)
    cases Option.some.inj (q2.symm.trans (State.methodFound?_of_named Y.fill0 (by decide)))
    cases Option.some.inj (q3.symm.trans Y.fill0)
    rw [Launch.admits_selectMethod X.admits]; exact q4
  have hselF : selectMethod e.platform s.vm P1.m.cls T.fill = .method N.fill := by
    obtain ⟨c2, r2, m2, q1, q2, q3, q4, -⟩ := Cond.selects_spec (a' (.selects Bundle.nN Bundle.tFill Bundle.nFill) (by simp [Bundle.npeArmAtoms]))
    cases Option.some.inj (q1.symm.trans hfound)
    cases Option.some.inj (q2.symm.trans (State.methodFound?_of_named Y.fill (by decide)))
    cases Option.some.inj (q3.symm.trans hnNF)
    rw [Launch.admits_selectMethod X.admits]; exact q4
  obtain ⟨cellS0, hcS0, hiss⟩ := Y.statics
  obtain ⟨u0, hu0⟩ := Cond.staticRefV Y.unassigned L.unassignedStatic L.statics hcS0 hiss (a' (.isRef (.static Bundle.tN "UNASSIGNED_STACK" Bundle.steD)) (by simp [Bundle.npeArmAtoms]))
  obtain ⟨sen, hsen⟩ := Cond.staticRefV Y.sentinel L.sentinelStatic L.statics hcS0 hiss (a' (.isRef (.static Bundle.tN "SUPPRESSED_SENTINEL" Bundle.listD)) (by simp [Bundle.npeArmAtoms]))
  obtain ⟨ci198, i198, fB, hk198, hg198, ha198, hsB, -, hnB, htB, hffB⟩ := Cond.ownField (t := .object "java/lang/Object") Y.found L.cls (by decide +kernel) (a' (.fieldLink Bundle.tN 198 Bundle.tN "backtrace" Bundle.objD) (by simp [Bundle.npeArmAtoms])) (a' (.lays Bundle.tN Bundle.tN "backtrace" Bundle.objD) (by simp [Bundle.npeArmAtoms])) e.platform hpl
  obtain ⟨cellS, hcS', heS, -, hkeep⟩ := X.same.2.2.2.2.2 T.aS cellS0 hcS0
  have hcellS : W.heap[T.aS]? = some cellS := hcS'
  have hout' : ∀ i, (⟨T.aS, i⟩ : Loc) ∉ locs := fun i hmem => by
    have := hlocs _ hmem cellS0 hcS0
    rw [hiss] at this; cases this
  have hknownS : cellS.vm ≠ .unknown := by
    rw [heS]; intro hu
    rw [show cellS0.vm = .unknown from hu] at hiss
    cases hiss
  have hvU : cellS.slots[T.fUnassigned.slot]? = some u0.v := by rw [hkeep _ (hout' _)]; exact hu0
  have hvSen : cellS.slots[T.fSentinel.slot]? = some sen.v := by rw [hkeep _ (hout' _)]; exact hsen
  obtain ⟨tyC, dC, hdC, hdnC⟩ := Cond.laysAt hfound hk Y.cause (a' (.lays Bundle.nN Bundle.tN "cause" "Ljava/lang/Throwable;") (by simp [Bundle.npeArmAtoms]))
  obtain ⟨tyS, dS, hdS, hdnS⟩ := Cond.laysAt hfound hk Y.stack (a' (.lays Bundle.nN Bundle.tN "stackTrace" Bundle.steD) (by simp [Bundle.npeArmAtoms]))
  obtain ⟨tyP, dP, hdP, hdnP⟩ := Cond.laysAt hfound hk Y.supp (a' (.lays Bundle.nN Bundle.tN "suppressedExceptions" Bundle.listD) (by simp [Bundle.npeArmAtoms]))
  obtain ⟨tyX, dX, hdX, hdnX⟩ := Cond.laysAt hfound hk hffS (a' (.lays Bundle.nN Bundle.nN "extendedMessageState" "I") (by simp [Bundle.npeArmAtoms, Bundle.npeAtoms]))
  obtain ⟨hnX, htX⟩ := State.fieldFound?_type hffS (t := .int) (by decide +kernel)
  have xC := Cond.laysApart hdC hdX hdnC hdnX (by rw [hnX, Y.causeName]; decide)
  have xS := Cond.laysApart hdS hdX hdnS hdnX (by rw [hnX, Y.stackName]; decide)
  have xP := Cond.laysApart hdP hdX hdnP hdnX (by rw [hnX, Y.suppName]; decide)
  have hv0 : (freshCell P1.m.cls N.kN).slots[N.fState.slot]? = some (.int 0) := by
    have := fresh_default (c := P1.m.cls) tyX
    rw [htX] at this; exact this
  obtain ⟨tyB, dB, hdB, hdnB⟩ := Cond.laysAt hfound hk hffB (a' (.lays Bundle.nN Bundle.tN "backtrace" Bundle.objD) (by simp [Bundle.npeArmAtoms]))
  have bC := Cond.laysApart hdB hdC hdnB hdnC (by rw [hnB, Y.causeName]; decide)
  have bS := Cond.laysApart hdB hdS hdnB hdnS (by rw [hnB, Y.stackName]; decide)
  have bP := Cond.laysApart hdB hdP hdnB hdnP (by rw [hnB, Y.suppName]; decide)
  have bX := Cond.laysApart hdB hdX hdnB hdnX (by rw [hnB, hnX]; decide)
  have hbk : ((npeCell N.toNpeT (preparedCellV T.toThrowableT (freshCell P1.m.cls N.kN) W.heap.size u0 sen) W.cur).withEntry W.cur).slots[fB.slot]? = some .null := by
    have := fresh_default (c := P1.m.cls) tyB
    rw [htB] at this
    simpa [npeCell, preparedCellV, Cell.setSlot, Cell.withEntry, Array.getElem?_setIfInBounds, bC, bS, bP, bX, bC.symm, bS.symm, bP.symm, bX.symm, defaultValue] using this
  have tkC := Takes.of_laid (v := .ref W.heap.size) hk hordN tyC (by rw [Y.causeType]; rfl)
  have tkS := Takes.of_laid (v := u0.v) hk hordN tyS (by rw [Y.stackType]; exact fits_refV_array _ u0)
  have tkP := Takes.of_laid (v := sen.v) hk hordN tyP (by rw [Y.suppType]; exact fits_refV_object _ sen)
  have tkX := Takes.of_laid (v := .int 1) hk hordN tyX (by rw [htX]; rfl)
  have hskip : SkipFacts T e.platform s (fun u => u) u0 ((npeCell N.toNpeT (preparedCellV T.toThrowableT (freshCell P1.m.cls N.kN) W.heap.size u0 sen) W.cur).withEntry W.cur) := ⟨{ ci198 := ci198, i198 := i198, fBack := fB }, ⟨hk198, hg198, ha198, hsB⟩, hbk, fun _ _ => rfl⟩
  obtain ⟨vm', X3, st, -⟩ := X.throwsNpeColdBareVAt hexec hg hsize T L Z LZ N LN P1 L1 [PR, PE] hLs hlink1 ⟨hlinkR, hlinkE, trivial⟩ hfound hk hinit hordN hctor hsel0 hselF hcellS hknownS hvU hvSen
    hv0 xC xS xP tkC tkS tkP tkX Y.objLocals hskip (fun _ _ hA hW _ hroom _ hrest => L.nativeOff p htr hA hW hroom hrest) (by simpa using hRframes) hRlocals (by simp) hRcells (by rw [hn]; exact hRslots)
  have hlt : W.heap.size < ((W.pushCell (freshCell P1.m.cls N.kN)).setVm vm').heap.size := by
    show W.heap.size < (W.pushCell (freshCell P1.m.cls N.kN)).heap.size
    rw [State.heap_size_pushCell]; omega
  rw [hfsz] at X3
  obtain ⟨g₁, hfrM⟩ := X3.frames_eq
  have hU : ((((W.pushCell (freshCell P1.m.cls N.kN)).setVm vm').setCell W.heap.size (npeBareV T.toThrowableT N.toNpeT (freshCell P1.m.cls N.kN) W.heap.size u0 sen)).setTop g).pushFrame (.throwing W.heap.size) = (((W.pushCell (freshCell P1.m.cls N.kN)).setVm vm').setCell W.heap.size (npeBareV T.toThrowableT N.toNpeT (freshCell P1.m.cls N.kN) W.heap.size u0 sen)).setFrames (.throwing W.heap.size :: .java g :: below) := by
    rw [State.pushFrame, State.frames_setTop _ hfrM, State.setTop_of_frames _ hfrM, State.setFrames_setFrames]
  refine ⟨_, W.heap.size, _, fun target ht => st.trans (by rw [← hU]; exact ht), X3.forget (fun y hy => ?_), heapAt_setCell_self _ hlt, hfound, rfl⟩
  simp only [List.mem_cons, List.not_mem_nil, or_false] at hy
  have hge : s.heap.size ≤ W.heap.size := X.same.2.1
  rcases hy with rfl | rfl | rfl | rfl | rfl <;> exact hge
/-- the words of a machine's NullPointerException, but the four that speak of the heap -/
def vx_atN (n : Nat) : List Cond := (Bundle.npeArmAtoms n).filter vx_no
/-- the words of a machine's throw with a message, but the four that speak of the heap -/
def vx_atM (X : String) (names : List String) : List Cond := (Bundle.messageArmAtoms X names).filter vx_no
section
variable {p : Program} {l : Launch} {e : Env} {R : Room} {s : State} {m : MethodId} {args : Array Value} {below : List Frame} {meth : Method} {c : Code} {H : Heap} {locs : List Loc} {cells slots : Nat}
/-- a frame seen from a rebased start, seen from the first start again -/
theorem vx_back9 {T S : State} {R' : Room} {k n : Nat} (X : Stand p l e R s m args below meth c T locs cells slots) (Y : Stand p l e R' ((T.setVm s.vm).setFrames (.invoking m args :: below)) m args below meth c T [] 0 0) (Z : Stand p l e R' ((T.setVm s.vm).setFrames (.invoking m args :: below)) m args below meth c S [] k n) :
    Stand p l e R s m args below meth c S locs (cells + k) (slots + n) := by
  have hW0 : s.WarmedH ((T.setVm s.vm).setFrames (.invoking m args :: below)).vm := State.WarmedH.refl s
  refine { admits := X.admits, cas := X.cas, clock := X.clock, frames := X.frames, room := X.room, hears := X.hears, method := X.method, code := X.code, here := Z.here, tail := Z.tail, warmed := State.WarmedH.trans hW0 Z.warmed, limits := Z.limits.trans (Y.limits.symm.trans X.limits), bytes := Z.bytes.trans (Y.bytes.symm.trans X.bytes), same := ?_ }
  obtain ⟨e1, e2⟩ := Z.same
  rw [State.setFrames_setFrames] at e1
  have h2 : (T.setVm s.vm).sameButNew (S.setVm s.vm) [] k n := ⟨e1, e2⟩
  have h3 := X.same.trans h2
  rw [List.append_nil] at h3
  exact h3
/-- from the machine's note that E is thrown here with this text -/
def vx_Note (p : Program) (l : Launch) (e : Env) (R : Room) (s : State) (m : MethodId) (args : Array Value) (below : List Frame) (meth : Method) (c : Code) (H : Heap) (locs : List Loc) (cells slots : Nat) (Q : State → Prop) (g : JFrame) (E text : String) : Prop :=
  ∀ T : State, T.heap = H → Stand p l e R s m args below meth c T locs cells slots → ∃ t, Steps p.tables e below ((T.setTop g).pushFrame (.throwNew E (some text) none)) t ∧ Q t
theorem vx_vm {pc : Nat} {ls : Array Slot} {rest : List Value} {Q : State → Prop} (hexec : p.tables.exec = Jvm.exec) (hl : l.stackTraces = false) {cls text : String} {names : List String} {nb : Nat} {A : Nat → Prop}
    (hcls : Bundle.fit cls = true) (hnames : ∀ n ∈ names, Bundle.fit n = true) (hsoe : (cls == "java/lang/StackOverflowError") = false) (hoom : (cls == "java/lang/OutOfMemoryError") = false)
    (hat : ∀ w ∈ vx_atM cls names, w.before args s = true) (hgood : ∀ w ∈ vx_atM cls names, vx_ot w = true)
    (hU : vx_Zq Bundle.tN "UNASSIGNED_STACK" Bundle.steD A s s.heap) (hN : vx_Zq Bundle.tN "SUPPRESSED_SENTINEL" Bundle.listD A s s.heap) (hS : va_S A s.heap H locs) (hsize : ls.size = c.maxLocals)
    (htext : (text == notModelled) = false) (hnb : (stringBytes (stringToUtf16 text)).size ≤ nb) (hnb1 : nb ≤ 1000)
    (hRframes : names.length + 4 < R.frames) (hRlocals : (rest.map fun v => v.category).sum + 10240 ≤ R.locals) (hshort : 13 * names.length + 55 ≤ 10240) (hRcells : cells + 3 ≤ R.cells) (hRslots : slots + (nb + 10) ≤ R.slots) (hlocks : meth.locks = false)
    (k : ∀ (H1 : Heap) (q9 : Addr) (ce : Cell), H.size ≤ H1.size → (∀ q : Nat, q < H.size → H1[q]? = H[q]?) → va_S A s.heap H1 locs → H1[q9]? = some ce → ce.vm = .none → s.vm.findClass cls = some ce.cls → vx_W p l e R s m args below meth c H1 locs (cells + 3) (slots + (nb + 10)) Q (F0 m pc ls rest) q9) :
    vx_Note p l e R s m args below meth c H locs cells slots Q (F0 m pc ls rest) cls text := by
  intro T hT X
  have htr : e.platform.stackTraces = false := (show e.platform.stackTraces = l.stackTraces by rw [X.admits.platform]).trans hl
  have Y := vx_rebase X (R' := { frames := R.frames, locals := R.locals, cells := 3, slots := nb + 10 }) (Nat.le_refl _) (Nat.le_refl _) hRcells hRslots
  have hhp : ((T.setVm s.vm).setFrames (.invoking m args :: below)).heap = H := hT
  have hW0 : s.WarmedH ((T.setVm s.vm).setFrames (.invoking m args :: below)).vm := State.WarmedH.refl s
  have hat' : ∀ w ∈ vx_atM cls names, w.before args ((T.setVm s.vm).setFrames (.invoking m args :: below)) = true := fun w hw => vx_ot_at hW0 rfl (hgood w hw) (hat w hw)
  have hU' : vx_Zq Bundle.tN "UNASSIGNED_STACK" Bundle.steD A ((T.setVm s.vm).setFrames (.invoking m args :: below)) ((T.setVm s.vm).setFrames (.invoking m args :: below)).heap := by rw [hhp]; exact vx_Zq.moved hW0.alike (hU.kept hS.2.1)
  have hN' : vx_Zq Bundle.tN "SUPPRESSED_SENTINEL" Bundle.listD A ((T.setVm s.vm).setFrames (.invoking m args :: below)) ((T.setVm s.vm).setFrames (.invoking m args :: below)).heap := by rw [hhp]; exact vx_Zq.moved hW0.alike (hN.kept hS.2.1)
  obtain ⟨S, q, ce, st, Z, hce, hcl', hv⟩ := vx_vmAt Y hexec htr (cls := cls) (names := names) (text := text) hcls hnames hsoe hoom (vx_own hat' (vx_isRefq hU'.1) (vx_isRefq hN'.1) hU'.2.word hN'.2.word) (fun x hx => nomatch hx) htext
    (by rw [Launch.admits_arrayLengthLimit X.admits]; omega) (by rw [Launch.admits_maxHeapBytes X.admits]; simp only [componentBytes]; omega)
    (g := F0 m pc ls rest) rfl hsize hRframes (by show 2 * 0 + (rest.map fun v => v.category).sum + 10240 ≤ R.locals; omega) hshort (by show 0 + 3 ≤ 3; omega) (by show 0 + (_ + 4 + 6) ≤ nb + 10; omega) hlocks
  obtain ⟨f1, f2⟩ := vx_frame Z.same
  have f1' : H.size ≤ S.heap.size := by rw [← hT]; exact f1
  have f2' : ∀ q : Nat, q < H.size → S.heap[q]? = H[q]? := fun q hq => by
    rw [← hT]
    exact f2 q (by rw [← hT] at hq; exact hq) (fun z hz => nomatch hz)
  have X5 := vx_back9 X Y Z
  have X6 : Stand p l e R s m args below meth c S locs (cells + 3) (slots + (nb + 10)) := { X5 with same := X5.same.mono (by omega) (by omega) }
  obtain ⟨t, a1, b1⟩ := k S.heap q ce f1' f2' ⟨Nat.le_trans hS.1 f1', fun q h1 h2 => (f2' q (Nat.lt_of_lt_of_le h1 hS.1)).trans (hS.2.1 q h1 h2), hS.2.2⟩ hce hv hcl' S rfl X6
  exact ⟨t, st t a1, b1⟩
/-- from the machine's note that NullPointerException is thrown here -/
def vx_NoteN (p : Program) (l : Launch) (e : Env) (R : Room) (s : State) (m : MethodId) (args : Array Value) (below : List Frame) (meth : Method) (c : Code) (H : Heap) (locs : List Loc) (cells slots : Nat) (Q : State → Prop) (g : JFrame) : Prop :=
  ∀ T : State, T.heap = H → Stand p l e R s m args below meth c T locs cells slots → ∃ t, Steps p.tables e below ((T.setTop g).pushFrame (.throwNew "java/lang/NullPointerException" none none)) t ∧ Q t
theorem vx_npe {pc : Nat} {ls : Array Slot} {rest : List Value} {Q : State → Prop} (hexec : p.tables.exec = Jvm.exec) (hl : l.stackTraces = false) {nb : Nat} {A : Nat → Prop}
    (hat : ∀ w ∈ vx_atN nb, w.before args s = true) (hgood : ∀ w ∈ vx_atN nb, vx_ot w = true)
    (hU : vx_Zq Bundle.tN "UNASSIGNED_STACK" Bundle.steD A s s.heap) (hN : vx_Zq Bundle.tN "SUPPRESSED_SENTINEL" Bundle.listD A s s.heap) (hS : va_S A s.heap H locs) (hsize : ls.size = c.maxLocals)
    (hRframes : 7 < R.frames) (hRlocals : (rest.map fun v => v.category).sum + 10240 ≤ R.locals) (hRcells : cells + 1 ≤ R.cells) (hRslots : slots + nb ≤ R.slots) (hlocks : meth.locks = false)
    (k : ∀ (H1 : Heap) (q9 : Addr) (ce : Cell), H.size ≤ H1.size → (∀ q : Nat, q < H.size → H1[q]? = H[q]?) → va_S A s.heap H1 locs → H1[q9]? = some ce → ce.vm = .none → s.vm.findClass "java/lang/NullPointerException" = some ce.cls → vx_W p l e R s m args below meth c H1 locs (cells + 1) (slots + nb) Q (F0 m pc ls rest) q9) :
    vx_NoteN p l e R s m args below meth c H locs cells slots Q (F0 m pc ls rest) := by
  intro T hT X
  have htr : e.platform.stackTraces = false := (show e.platform.stackTraces = l.stackTraces by rw [X.admits.platform]).trans hl
  have Y := vx_rebase X (R' := { frames := R.frames, locals := R.locals, cells := 1, slots := nb }) (Nat.le_refl _) (Nat.le_refl _) hRcells hRslots
  have hhp : ((T.setVm s.vm).setFrames (.invoking m args :: below)).heap = H := hT
  have hW0 : s.WarmedH ((T.setVm s.vm).setFrames (.invoking m args :: below)).vm := State.WarmedH.refl s
  have hat' : ∀ w ∈ vx_atN nb, w.before args ((T.setVm s.vm).setFrames (.invoking m args :: below)) = true := fun w hw => vx_ot_at hW0 rfl (hgood w hw) (hat w hw)
  have hU' : vx_Zq Bundle.tN "UNASSIGNED_STACK" Bundle.steD A ((T.setVm s.vm).setFrames (.invoking m args :: below)) ((T.setVm s.vm).setFrames (.invoking m args :: below)).heap := by rw [hhp]; exact vx_Zq.moved hW0.alike (hU.kept hS.2.1)
  have hN' : vx_Zq Bundle.tN "SUPPRESSED_SENTINEL" Bundle.listD A ((T.setVm s.vm).setFrames (.invoking m args :: below)) ((T.setVm s.vm).setFrames (.invoking m args :: below)).heap := by rw [hhp]; exact vx_Zq.moved hW0.alike (hN.kept hS.2.1)
  obtain ⟨S, q, ce, st, Z, hce, hcl', hv⟩ := vx_npeAt Y hexec htr (n := nb) (vx_own hat' (vx_isRefq hU'.1) (vx_isRefq hN'.1) hU'.2.word hN'.2.word) (fun x hx => nomatch hx)
    (g := F0 m pc ls rest) rfl hsize hRframes (by show 2 * 0 + (rest.map fun v => v.category).sum + 10240 ≤ R.locals; omega) (by show 0 + 1 ≤ 1; omega) (by show 0 + nb ≤ nb; omega) hlocks
  obtain ⟨f1, f2⟩ := vx_frame Z.same
  have f1' : H.size ≤ S.heap.size := by rw [← hT]; exact f1
  have f2' : ∀ q : Nat, q < H.size → S.heap[q]? = H[q]? := fun q hq => by
    rw [← hT]
    exact f2 q (by rw [← hT] at hq; exact hq) (fun z hz => nomatch hz)
  have X5 := vx_back9 X Y Z
  have X6 : Stand p l e R s m args below meth c S locs (cells + 1) (slots + nb) := { X5 with same := X5.same.mono (by omega) (by omega) }
  obtain ⟨t, a1, b1⟩ := k S.heap q ce f1' f2' ⟨Nat.le_trans hS.1 f1', fun q h1 h2 => (f2' q (Nat.lt_of_lt_of_le h1 hS.1)).trans (hS.2.1 q h1 h2), hS.2.2⟩ hce hv hcl' S rfl X6
  exact ⟨t, st t a1, b1⟩
variable {Q : State → Prop} {cc : ByteArray} {pc : Nat} {ls : Array Slot} {rest : List Value}
theorem vx_idivZ (hexec : p.tables.exec = Jvm.exec) (hb : c.code = cc) {a b : Int32} (h0 : b = 0) (d : decode cc pc = .ok (.idiv, 1)) (k : vx_Note p l e R s m args below meth c H locs cells slots Q (F0 m pc ls rest) "java/lang/ArithmeticException" "/ by zero") :
    W p l e R s m args below meth c H locs cells slots Q (F0 m pc ls (.int b :: .int a :: rest)) := by
  intro T hT X
  obtain ⟨t, st, q⟩ := k T hT X
  exact ⟨t, X.idivZero hexec (g := F0 m pc ls (.int b :: .int a :: rest)) rfl (a := a) (rest := rest) (by rw [h0]) (by rw [hb]; exact d) t st, q⟩
theorem vx_iremZ (hexec : p.tables.exec = Jvm.exec) (hb : c.code = cc) {a b : Int32} (h0 : b = 0) (d : decode cc pc = .ok (.irem, 1)) (k : vx_Note p l e R s m args below meth c H locs cells slots Q (F0 m pc ls rest) "java/lang/ArithmeticException" "/ by zero") :
    W p l e R s m args below meth c H locs cells slots Q (F0 m pc ls (.int b :: .int a :: rest)) := by
  intro T hT X
  obtain ⟨t, st, q⟩ := k T hT X
  exact ⟨t, X.iremZero hexec (g := F0 m pc ls (.int b :: .int a :: rest)) rfl (a := a) (rest := rest) (by rw [h0]) (by rw [hb]; exact d) t st, q⟩
theorem vx_ldivZ (hexec : p.tables.exec = Jvm.exec) (hb : c.code = cc) {a b : Int64} (h0 : b = 0) (d : decode cc pc = .ok (.ldiv, 1)) (k : vx_Note p l e R s m args below meth c H locs cells slots Q (F0 m pc ls rest) "java/lang/ArithmeticException" "/ by zero") :
    W p l e R s m args below meth c H locs cells slots Q (F0 m pc ls (.long b :: .long a :: rest)) := by
  intro T hT X
  obtain ⟨t, st, q⟩ := k T hT X
  exact ⟨t, X.ldivZero hexec (g := F0 m pc ls (.long b :: .long a :: rest)) rfl (a := a) (rest := rest) (by rw [h0]) (by rw [hb]; exact d) t st, q⟩
theorem vx_lremZ (hexec : p.tables.exec = Jvm.exec) (hb : c.code = cc) {a b : Int64} (h0 : b = 0) (d : decode cc pc = .ok (.lrem, 1)) (k : vx_Note p l e R s m args below meth c H locs cells slots Q (F0 m pc ls rest) "java/lang/ArithmeticException" "/ by zero") :
    W p l e R s m args below meth c H locs cells slots Q (F0 m pc ls (.long b :: .long a :: rest)) := by
  intro T hT X
  obtain ⟨t, st, q⟩ := k T hT X
  exact ⟨t, X.lremZero hexec (g := F0 m pc ls (.long b :: .long a :: rest)) rfl (a := a) (rest := rest) (by rw [h0]) (by rw [hb]; exact d) t st, q⟩
theorem vx_ialdZ {D : va_G} {cl : List vw_C} {ws : va_W} {tys : List (ClassId × FieldType)} {a : Nat} (hexec : p.tables.exec = Jvm.exec) (hb : c.code = cc) (hK : va_K D cl tys s) (hP : va_P D cl ws H) (q0 t0 : Nat) {cA : ClassId} {n : Nat} {f : Nat → Int32} (ha : ws[q0]? = some (a, .inl (cA, n, .inl f))) (ht : tys[t0]? = some (cA, .int)) {i : Int32} (hout : ¬ vp_in i n) (hdg : decode cc pc = .ok (.iaload, 1))
    (k : ∀ tx : String, tx = (toString "Index " ++ toString i ++ toString " out of bounds for length " ++ toString n : String) → vx_Note p l e R s m args below meth c H locs cells slots Q (F0 m pc ls rest) "java/lang/ArrayIndexOutOfBoundsException" tx) : W p l e R s m args below meth c H locs cells slots Q (F0 m pc ls (.int i :: .ref a :: rest)) := by
  intro T hT X
  obtain ⟨t, st, q⟩ := k _ rfl T hT X
  refine ⟨t, ?_, q⟩
  have h1 := X.ialoadOut hexec (by rw [hT]; exact hP q0 _ ha) ((hK.2 t0 _ ht).1 n (fun j => .int (f j))) (j := i) (by show (i < 0 ∨ (arrV _ _ _).slots.size ≤ _); rw [arrV_size]; exact Classical.byContradiction hout) (g := F0 m pc ls (.int i :: .ref a :: rest)) rfl (rest := rest) rfl (by rw [hb]; exact hdg) t
  simp only [arrV_size] at h1
  exact h1 st
theorem vx_iastZ {D : va_G} {cl : List vw_C} {ws : va_W} {tys : List (ClassId × FieldType)} {a : Nat} (hexec : p.tables.exec = Jvm.exec) (hb : c.code = cc) (hK : va_K D cl tys s) (hP : va_P D cl ws H) (q0 t0 : Nat) {cA : ClassId} {n : Nat} {f : Nat → Int32} (ha : ws[q0]? = some (a, .inl (cA, n, .inl f))) (ht : tys[t0]? = some (cA, .int)) {i : Int32} {x : Int32} (hout : ¬ vp_in i n) (hdg : decode cc pc = .ok (.iastore, 1))
    (k : ∀ tx : String, tx = (toString "Index " ++ toString i ++ toString " out of bounds for length " ++ toString n : String) → vx_Note p l e R s m args below meth c H locs cells slots Q (F0 m pc ls rest) "java/lang/ArrayIndexOutOfBoundsException" tx) : W p l e R s m args below meth c H locs cells slots Q (F0 m pc ls (.int x :: .int i :: .ref a :: rest)) := by
  intro T hT X
  obtain ⟨t, st, q⟩ := k _ rfl T hT X
  refine ⟨t, ?_, q⟩
  have h1 := X.iastoreOut hexec (by rw [hT]; exact hP q0 _ ha) ((hK.2 t0 _ ht).1 n (fun j => .int (f j))) (j := i) (by show (i < 0 ∨ (arrV _ _ _).slots.size ≤ _); rw [arrV_size]; exact Classical.byContradiction hout) (g := F0 m pc ls (.int x :: .int i :: .ref a :: rest)) rfl (rest := rest) rfl (by rw [hb]; exact hdg) t
  simp only [arrV_size] at h1
  exact h1 st
theorem vx_baldZ {D : va_G} {cl : List vw_C} {ws : va_W} {tys : List (ClassId × FieldType)} {a : Nat} (hexec : p.tables.exec = Jvm.exec) (hb : c.code = cc) (hK : va_K D cl tys s) (hP : va_P D cl ws H) (q0 t0 : Nat) {cA : ClassId} {n : Nat} {f : Nat → Int32} (ha : ws[q0]? = some (a, .inl (cA, n, .inl f))) (ht : tys[t0]? = some (cA, .byte)) {i : Int32} (hout : ¬ vp_in i n) (hdg : decode cc pc = .ok (.baload, 1))
    (k : ∀ tx : String, tx = (toString "Index " ++ toString i ++ toString " out of bounds for length " ++ toString n : String) → vx_Note p l e R s m args below meth c H locs cells slots Q (F0 m pc ls rest) "java/lang/ArrayIndexOutOfBoundsException" tx) : W p l e R s m args below meth c H locs cells slots Q (F0 m pc ls (.int i :: .ref a :: rest)) := by
  intro T hT X
  obtain ⟨t, st, q⟩ := k _ rfl T hT X
  refine ⟨t, ?_, q⟩
  have h1 := X.baloadOut hexec (by rw [hT]; exact hP q0 _ ha) ((hK.2 t0 _ ht).1 n (fun j => .int (f j))) (j := i) (by show (i < 0 ∨ (arrV _ _ _).slots.size ≤ _); rw [arrV_size]; exact Classical.byContradiction hout) (g := F0 m pc ls (.int i :: .ref a :: rest)) rfl (rest := rest) rfl (by rw [hb]; exact hdg) t
  simp only [arrV_size] at h1
  exact h1 st
theorem vx_bastZ {D : va_G} {cl : List vw_C} {ws : va_W} {tys : List (ClassId × FieldType)} {a : Nat} (hexec : p.tables.exec = Jvm.exec) (hb : c.code = cc) (hK : va_K D cl tys s) (hP : va_P D cl ws H) (q0 t0 : Nat) {cA : ClassId} {n : Nat} {f : Nat → Int32} (ha : ws[q0]? = some (a, .inl (cA, n, .inl f))) (ht : tys[t0]? = some (cA, .byte)) {i : Int32} {x : Int32} (hout : ¬ vp_in i n) (hdg : decode cc pc = .ok (.bastore, 1))
    (k : ∀ tx : String, tx = (toString "Index " ++ toString i ++ toString " out of bounds for length " ++ toString n : String) → vx_Note p l e R s m args below meth c H locs cells slots Q (F0 m pc ls rest) "java/lang/ArrayIndexOutOfBoundsException" tx) : W p l e R s m args below meth c H locs cells slots Q (F0 m pc ls (.int x :: .int i :: .ref a :: rest)) := by
  intro T hT X
  obtain ⟨t, st, q⟩ := k _ rfl T hT X
  refine ⟨t, ?_, q⟩
  have h1 := X.bastoreOut hexec (by rw [hT]; exact hP q0 _ ha) ((hK.2 t0 _ ht).1 n (fun j => .int (f j))) (j := i) (by show (i < 0 ∨ (arrV _ _ _).slots.size ≤ _); rw [arrV_size]; exact Classical.byContradiction hout) (g := F0 m pc ls (.int x :: .int i :: .ref a :: rest)) rfl (rest := rest) rfl (by rw [hb]; exact hdg) t
  simp only [arrV_size] at h1
  exact h1 st
theorem vx_zaldZ {D : va_G} {cl : List vw_C} {ws : va_W} {tys : List (ClassId × FieldType)} {a : Nat} (hexec : p.tables.exec = Jvm.exec) (hb : c.code = cc) (hK : va_K D cl tys s) (hP : va_P D cl ws H) (q0 t0 : Nat) {cA : ClassId} {n : Nat} {f : Nat → Int32} (ha : ws[q0]? = some (a, .inl (cA, n, .inl f))) (ht : tys[t0]? = some (cA, .boolean)) {i : Int32} (hout : ¬ vp_in i n) (hdg : decode cc pc = .ok (.baload, 1))
    (k : ∀ tx : String, tx = (toString "Index " ++ toString i ++ toString " out of bounds for length " ++ toString n : String) → vx_Note p l e R s m args below meth c H locs cells slots Q (F0 m pc ls rest) "java/lang/ArrayIndexOutOfBoundsException" tx) : W p l e R s m args below meth c H locs cells slots Q (F0 m pc ls (.int i :: .ref a :: rest)) := by
  intro T hT X
  obtain ⟨t, st, q⟩ := k _ rfl T hT X
  refine ⟨t, ?_, q⟩
  have h1 := X.baloadOut hexec (by rw [hT]; exact hP q0 _ ha) ((hK.2 t0 _ ht).1 n (fun j => .int (f j))) (j := i) (by show (i < 0 ∨ (arrV _ _ _).slots.size ≤ _); rw [arrV_size]; exact Classical.byContradiction hout) (g := F0 m pc ls (.int i :: .ref a :: rest)) rfl (rest := rest) rfl (by rw [hb]; exact hdg) t
  simp only [arrV_size] at h1
  exact h1 st
theorem vx_zastZ {D : va_G} {cl : List vw_C} {ws : va_W} {tys : List (ClassId × FieldType)} {a : Nat} (hexec : p.tables.exec = Jvm.exec) (hb : c.code = cc) (hK : va_K D cl tys s) (hP : va_P D cl ws H) (q0 t0 : Nat) {cA : ClassId} {n : Nat} {f : Nat → Int32} (ha : ws[q0]? = some (a, .inl (cA, n, .inl f))) (ht : tys[t0]? = some (cA, .boolean)) {i : Int32} {x : Int32} (hout : ¬ vp_in i n) (hdg : decode cc pc = .ok (.bastore, 1))
    (k : ∀ tx : String, tx = (toString "Index " ++ toString i ++ toString " out of bounds for length " ++ toString n : String) → vx_Note p l e R s m args below meth c H locs cells slots Q (F0 m pc ls rest) "java/lang/ArrayIndexOutOfBoundsException" tx) : W p l e R s m args below meth c H locs cells slots Q (F0 m pc ls (.int x :: .int i :: .ref a :: rest)) := by
  intro T hT X
  obtain ⟨t, st, q⟩ := k _ rfl T hT X
  refine ⟨t, ?_, q⟩
  have h1 := X.bastoreOut hexec (by rw [hT]; exact hP q0 _ ha) ((hK.2 t0 _ ht).1 n (fun j => .int (f j))) (j := i) (by show (i < 0 ∨ (arrV _ _ _).slots.size ≤ _); rw [arrV_size]; exact Classical.byContradiction hout) (g := F0 m pc ls (.int x :: .int i :: .ref a :: rest)) rfl (rest := rest) rfl (by rw [hb]; exact hdg) t
  simp only [arrV_size] at h1
  exact h1 st
theorem vx_caldZ {D : va_G} {cl : List vw_C} {ws : va_W} {tys : List (ClassId × FieldType)} {a : Nat} (hexec : p.tables.exec = Jvm.exec) (hb : c.code = cc) (hK : va_K D cl tys s) (hP : va_P D cl ws H) (q0 t0 : Nat) {cA : ClassId} {n : Nat} {f : Nat → Int32} (ha : ws[q0]? = some (a, .inl (cA, n, .inl f))) (ht : tys[t0]? = some (cA, .char)) {i : Int32} (hout : ¬ vp_in i n) (hdg : decode cc pc = .ok (.caload, 1))
    (k : ∀ tx : String, tx = (toString "Index " ++ toString i ++ toString " out of bounds for length " ++ toString n : String) → vx_Note p l e R s m args below meth c H locs cells slots Q (F0 m pc ls rest) "java/lang/ArrayIndexOutOfBoundsException" tx) : W p l e R s m args below meth c H locs cells slots Q (F0 m pc ls (.int i :: .ref a :: rest)) := by
  intro T hT X
  obtain ⟨t, st, q⟩ := k _ rfl T hT X
  refine ⟨t, ?_, q⟩
  have h1 := X.caloadOut hexec (by rw [hT]; exact hP q0 _ ha) ((hK.2 t0 _ ht).1 n (fun j => .int (f j))) (j := i) (by show (i < 0 ∨ (arrV _ _ _).slots.size ≤ _); rw [arrV_size]; exact Classical.byContradiction hout) (g := F0 m pc ls (.int i :: .ref a :: rest)) rfl (rest := rest) rfl (by rw [hb]; exact hdg) t
  simp only [arrV_size] at h1
  exact h1 st
theorem vx_castZ {D : va_G} {cl : List vw_C} {ws : va_W} {tys : List (ClassId × FieldType)} {a : Nat} (hexec : p.tables.exec = Jvm.exec) (hb : c.code = cc) (hK : va_K D cl tys s) (hP : va_P D cl ws H) (q0 t0 : Nat) {cA : ClassId} {n : Nat} {f : Nat → Int32} (ha : ws[q0]? = some (a, .inl (cA, n, .inl f))) (ht : tys[t0]? = some (cA, .char)) {i : Int32} {x : Int32} (hout : ¬ vp_in i n) (hdg : decode cc pc = .ok (.castore, 1))
    (k : ∀ tx : String, tx = (toString "Index " ++ toString i ++ toString " out of bounds for length " ++ toString n : String) → vx_Note p l e R s m args below meth c H locs cells slots Q (F0 m pc ls rest) "java/lang/ArrayIndexOutOfBoundsException" tx) : W p l e R s m args below meth c H locs cells slots Q (F0 m pc ls (.int x :: .int i :: .ref a :: rest)) := by
  intro T hT X
  obtain ⟨t, st, q⟩ := k _ rfl T hT X
  refine ⟨t, ?_, q⟩
  have h1 := X.castoreOut hexec (by rw [hT]; exact hP q0 _ ha) ((hK.2 t0 _ ht).1 n (fun j => .int (f j))) (j := i) (by show (i < 0 ∨ (arrV _ _ _).slots.size ≤ _); rw [arrV_size]; exact Classical.byContradiction hout) (g := F0 m pc ls (.int x :: .int i :: .ref a :: rest)) rfl (rest := rest) rfl (by rw [hb]; exact hdg) t
  simp only [arrV_size] at h1
  exact h1 st
theorem vx_saldZ {D : va_G} {cl : List vw_C} {ws : va_W} {tys : List (ClassId × FieldType)} {a : Nat} (hexec : p.tables.exec = Jvm.exec) (hb : c.code = cc) (hK : va_K D cl tys s) (hP : va_P D cl ws H) (q0 t0 : Nat) {cA : ClassId} {n : Nat} {f : Nat → Int32} (ha : ws[q0]? = some (a, .inl (cA, n, .inl f))) (ht : tys[t0]? = some (cA, .short)) {i : Int32} (hout : ¬ vp_in i n) (hdg : decode cc pc = .ok (.saload, 1))
    (k : ∀ tx : String, tx = (toString "Index " ++ toString i ++ toString " out of bounds for length " ++ toString n : String) → vx_Note p l e R s m args below meth c H locs cells slots Q (F0 m pc ls rest) "java/lang/ArrayIndexOutOfBoundsException" tx) : W p l e R s m args below meth c H locs cells slots Q (F0 m pc ls (.int i :: .ref a :: rest)) := by
  intro T hT X
  obtain ⟨t, st, q⟩ := k _ rfl T hT X
  refine ⟨t, ?_, q⟩
  have h1 := X.saloadOut hexec (by rw [hT]; exact hP q0 _ ha) ((hK.2 t0 _ ht).1 n (fun j => .int (f j))) (j := i) (by show (i < 0 ∨ (arrV _ _ _).slots.size ≤ _); rw [arrV_size]; exact Classical.byContradiction hout) (g := F0 m pc ls (.int i :: .ref a :: rest)) rfl (rest := rest) rfl (by rw [hb]; exact hdg) t
  simp only [arrV_size] at h1
  exact h1 st
theorem vx_sastZ {D : va_G} {cl : List vw_C} {ws : va_W} {tys : List (ClassId × FieldType)} {a : Nat} (hexec : p.tables.exec = Jvm.exec) (hb : c.code = cc) (hK : va_K D cl tys s) (hP : va_P D cl ws H) (q0 t0 : Nat) {cA : ClassId} {n : Nat} {f : Nat → Int32} (ha : ws[q0]? = some (a, .inl (cA, n, .inl f))) (ht : tys[t0]? = some (cA, .short)) {i : Int32} {x : Int32} (hout : ¬ vp_in i n) (hdg : decode cc pc = .ok (.sastore, 1))
    (k : ∀ tx : String, tx = (toString "Index " ++ toString i ++ toString " out of bounds for length " ++ toString n : String) → vx_Note p l e R s m args below meth c H locs cells slots Q (F0 m pc ls rest) "java/lang/ArrayIndexOutOfBoundsException" tx) : W p l e R s m args below meth c H locs cells slots Q (F0 m pc ls (.int x :: .int i :: .ref a :: rest)) := by
  intro T hT X
  obtain ⟨t, st, q⟩ := k _ rfl T hT X
  refine ⟨t, ?_, q⟩
  have h1 := X.sastoreOut hexec (by rw [hT]; exact hP q0 _ ha) ((hK.2 t0 _ ht).1 n (fun j => .int (f j))) (j := i) (by show (i < 0 ∨ (arrV _ _ _).slots.size ≤ _); rw [arrV_size]; exact Classical.byContradiction hout) (g := F0 m pc ls (.int x :: .int i :: .ref a :: rest)) rfl (rest := rest) rfl (by rw [hb]; exact hdg) t
  simp only [arrV_size] at h1
  exact h1 st
theorem vx_laldZ {D : va_G} {cl : List vw_C} {ws : va_W} {tys : List (ClassId × FieldType)} {a : Nat} (hexec : p.tables.exec = Jvm.exec) (hb : c.code = cc) (hK : va_K D cl tys s) (hP : va_P D cl ws H) (q0 t0 : Nat) {cA : ClassId} {n : Nat} {f : Nat → Int64} (ha : ws[q0]? = some (a, .inl (cA, n, .inr (.inl f)))) (ht : tys[t0]? = some (cA, .long)) {i : Int32} (hout : ¬ vp_in i n) (hdg : decode cc pc = .ok (.laload, 1))
    (k : ∀ tx : String, tx = (toString "Index " ++ toString i ++ toString " out of bounds for length " ++ toString n : String) → vx_Note p l e R s m args below meth c H locs cells slots Q (F0 m pc ls rest) "java/lang/ArrayIndexOutOfBoundsException" tx) : W p l e R s m args below meth c H locs cells slots Q (F0 m pc ls (.int i :: .ref a :: rest)) := by
  intro T hT X
  obtain ⟨t, st, q⟩ := k _ rfl T hT X
  refine ⟨t, ?_, q⟩
  have h1 := X.laloadOut hexec (by rw [hT]; exact hP q0 _ ha) ((hK.2 t0 _ ht).1 n (fun j => .long (f j))) (j := i) (by show (i < 0 ∨ (arrV _ _ _).slots.size ≤ _); rw [arrV_size]; exact Classical.byContradiction hout) (g := F0 m pc ls (.int i :: .ref a :: rest)) rfl (rest := rest) rfl (by rw [hb]; exact hdg) t
  simp only [arrV_size] at h1
  exact h1 st
theorem vx_lastZ {D : va_G} {cl : List vw_C} {ws : va_W} {tys : List (ClassId × FieldType)} {a : Nat} (hexec : p.tables.exec = Jvm.exec) (hb : c.code = cc) (hK : va_K D cl tys s) (hP : va_P D cl ws H) (q0 t0 : Nat) {cA : ClassId} {n : Nat} {f : Nat → Int64} (ha : ws[q0]? = some (a, .inl (cA, n, .inr (.inl f)))) (ht : tys[t0]? = some (cA, .long)) {i : Int32} {x : Int64} (hout : ¬ vp_in i n) (hdg : decode cc pc = .ok (.lastore, 1))
    (k : ∀ tx : String, tx = (toString "Index " ++ toString i ++ toString " out of bounds for length " ++ toString n : String) → vx_Note p l e R s m args below meth c H locs cells slots Q (F0 m pc ls rest) "java/lang/ArrayIndexOutOfBoundsException" tx) : W p l e R s m args below meth c H locs cells slots Q (F0 m pc ls (.long x :: .int i :: .ref a :: rest)) := by
  intro T hT X
  obtain ⟨t, st, q⟩ := k _ rfl T hT X
  refine ⟨t, ?_, q⟩
  have h1 := X.lastoreOut hexec (by rw [hT]; exact hP q0 _ ha) ((hK.2 t0 _ ht).1 n (fun j => .long (f j))) (j := i) (by show (i < 0 ∨ (arrV _ _ _).slots.size ≤ _); rw [arrV_size]; exact Classical.byContradiction hout) (g := F0 m pc ls (.long x :: .int i :: .ref a :: rest)) rfl (rest := rest) rfl (by rw [hb]; exact hdg) t
  simp only [arrV_size] at h1
  exact h1 st
theorem vx_faldZ {D : va_G} {cl : List vw_C} {ws : va_W} {tys : List (ClassId × FieldType)} {a : Nat} (hexec : p.tables.exec = Jvm.exec) (hb : c.code = cc) (hK : va_K D cl tys s) (hP : va_P D cl ws H) (q0 t0 : Nat) {cA : ClassId} {n : Nat} {f : Nat → UInt32} (ha : ws[q0]? = some (a, .inl (cA, n, .inr (.inr (.inl f))))) (ht : tys[t0]? = some (cA, .float)) {i : Int32} (hout : ¬ vp_in i n) (hdg : decode cc pc = .ok (.faload, 1))
    (k : ∀ tx : String, tx = (toString "Index " ++ toString i ++ toString " out of bounds for length " ++ toString n : String) → vx_Note p l e R s m args below meth c H locs cells slots Q (F0 m pc ls rest) "java/lang/ArrayIndexOutOfBoundsException" tx) : W p l e R s m args below meth c H locs cells slots Q (F0 m pc ls (.int i :: .ref a :: rest)) := by
  intro T hT X
  obtain ⟨t, st, q⟩ := k _ rfl T hT X
  refine ⟨t, ?_, q⟩
  have h1 := X.faloadOut hexec (by rw [hT]; exact hP q0 _ ha) ((hK.2 t0 _ ht).1 n (fun j => .float (f j))) (j := i) (by show (i < 0 ∨ (arrV _ _ _).slots.size ≤ _); rw [arrV_size]; exact Classical.byContradiction hout) (g := F0 m pc ls (.int i :: .ref a :: rest)) rfl (rest := rest) rfl (by rw [hb]; exact hdg) t
  simp only [arrV_size] at h1
  exact h1 st
theorem vx_fastZ {D : va_G} {cl : List vw_C} {ws : va_W} {tys : List (ClassId × FieldType)} {a : Nat} (hexec : p.tables.exec = Jvm.exec) (hb : c.code = cc) (hK : va_K D cl tys s) (hP : va_P D cl ws H) (q0 t0 : Nat) {cA : ClassId} {n : Nat} {f : Nat → UInt32} (ha : ws[q0]? = some (a, .inl (cA, n, .inr (.inr (.inl f))))) (ht : tys[t0]? = some (cA, .float)) {i : Int32} {x : UInt32} (hout : ¬ vp_in i n) (hdg : decode cc pc = .ok (.fastore, 1))
    (k : ∀ tx : String, tx = (toString "Index " ++ toString i ++ toString " out of bounds for length " ++ toString n : String) → vx_Note p l e R s m args below meth c H locs cells slots Q (F0 m pc ls rest) "java/lang/ArrayIndexOutOfBoundsException" tx) : W p l e R s m args below meth c H locs cells slots Q (F0 m pc ls (.float x :: .int i :: .ref a :: rest)) := by
  intro T hT X
  obtain ⟨t, st, q⟩ := k _ rfl T hT X
  refine ⟨t, ?_, q⟩
  have h1 := X.fastoreOut hexec (by rw [hT]; exact hP q0 _ ha) ((hK.2 t0 _ ht).1 n (fun j => .float (f j))) (j := i) (by show (i < 0 ∨ (arrV _ _ _).slots.size ≤ _); rw [arrV_size]; exact Classical.byContradiction hout) (g := F0 m pc ls (.float x :: .int i :: .ref a :: rest)) rfl (rest := rest) rfl (by rw [hb]; exact hdg) t
  simp only [arrV_size] at h1
  exact h1 st
theorem vx_daldZ {D : va_G} {cl : List vw_C} {ws : va_W} {tys : List (ClassId × FieldType)} {a : Nat} (hexec : p.tables.exec = Jvm.exec) (hb : c.code = cc) (hK : va_K D cl tys s) (hP : va_P D cl ws H) (q0 t0 : Nat) {cA : ClassId} {n : Nat} {f : Nat → UInt64} (ha : ws[q0]? = some (a, .inl (cA, n, .inr (.inr (.inr (.inl f)))))) (ht : tys[t0]? = some (cA, .double)) {i : Int32} (hout : ¬ vp_in i n) (hdg : decode cc pc = .ok (.daload, 1))
    (k : ∀ tx : String, tx = (toString "Index " ++ toString i ++ toString " out of bounds for length " ++ toString n : String) → vx_Note p l e R s m args below meth c H locs cells slots Q (F0 m pc ls rest) "java/lang/ArrayIndexOutOfBoundsException" tx) : W p l e R s m args below meth c H locs cells slots Q (F0 m pc ls (.int i :: .ref a :: rest)) := by
  intro T hT X
  obtain ⟨t, st, q⟩ := k _ rfl T hT X
  refine ⟨t, ?_, q⟩
  have h1 := X.daloadOut hexec (by rw [hT]; exact hP q0 _ ha) ((hK.2 t0 _ ht).1 n (fun j => .double (f j))) (j := i) (by show (i < 0 ∨ (arrV _ _ _).slots.size ≤ _); rw [arrV_size]; exact Classical.byContradiction hout) (g := F0 m pc ls (.int i :: .ref a :: rest)) rfl (rest := rest) rfl (by rw [hb]; exact hdg) t
  simp only [arrV_size] at h1
  exact h1 st
theorem vx_dastZ {D : va_G} {cl : List vw_C} {ws : va_W} {tys : List (ClassId × FieldType)} {a : Nat} (hexec : p.tables.exec = Jvm.exec) (hb : c.code = cc) (hK : va_K D cl tys s) (hP : va_P D cl ws H) (q0 t0 : Nat) {cA : ClassId} {n : Nat} {f : Nat → UInt64} (ha : ws[q0]? = some (a, .inl (cA, n, .inr (.inr (.inr (.inl f)))))) (ht : tys[t0]? = some (cA, .double)) {i : Int32} {x : UInt64} (hout : ¬ vp_in i n) (hdg : decode cc pc = .ok (.dastore, 1))
    (k : ∀ tx : String, tx = (toString "Index " ++ toString i ++ toString " out of bounds for length " ++ toString n : String) → vx_Note p l e R s m args below meth c H locs cells slots Q (F0 m pc ls rest) "java/lang/ArrayIndexOutOfBoundsException" tx) : W p l e R s m args below meth c H locs cells slots Q (F0 m pc ls (.double x :: .int i :: .ref a :: rest)) := by
  intro T hT X
  obtain ⟨t, st, q⟩ := k _ rfl T hT X
  refine ⟨t, ?_, q⟩
  have h1 := X.dastoreOut hexec (by rw [hT]; exact hP q0 _ ha) ((hK.2 t0 _ ht).1 n (fun j => .double (f j))) (j := i) (by show (i < 0 ∨ (arrV _ _ _).slots.size ≤ _); rw [arrV_size]; exact Classical.byContradiction hout) (g := F0 m pc ls (.double x :: .int i :: .ref a :: rest)) rfl (rest := rest) rfl (by rw [hb]; exact hdg) t
  simp only [arrV_size] at h1
  exact h1 st
theorem vx_arraylengthN (hexec : p.tables.exec = Jvm.exec) (hb : c.code = cc) (hdg : decode cc pc = .ok (.arraylength, 1)) (k : vx_NoteN p l e R s m args below meth c H locs cells slots Q (F0 m pc ls rest)) : W p l e R s m args below meth c H locs cells slots Q (F0 m pc ls (.null :: rest)) := by
  intro T hT X
  obtain ⟨t, st, q⟩ := k T hT X
  exact ⟨t, X.arraylengthNull hexec (g := F0 m pc ls (.null :: rest)) rfl (rest := rest) rfl (by rw [hb]; exact hdg) t st, q⟩
theorem vx_ialoadN (hexec : p.tables.exec = Jvm.exec) (hb : c.code = cc) {i : Int32} (hdg : decode cc pc = .ok (.iaload, 1)) (k : vx_NoteN p l e R s m args below meth c H locs cells slots Q (F0 m pc ls rest)) : W p l e R s m args below meth c H locs cells slots Q (F0 m pc ls (.int i :: .null :: rest)) := by
  intro T hT X
  obtain ⟨t, st, q⟩ := k T hT X
  exact ⟨t, X.ialoadNull hexec (g := F0 m pc ls (.int i :: .null :: rest)) rfl (rest := rest) rfl (by rw [hb]; exact hdg) t st, q⟩
theorem vx_laloadN (hexec : p.tables.exec = Jvm.exec) (hb : c.code = cc) {i : Int32} (hdg : decode cc pc = .ok (.laload, 1)) (k : vx_NoteN p l e R s m args below meth c H locs cells slots Q (F0 m pc ls rest)) : W p l e R s m args below meth c H locs cells slots Q (F0 m pc ls (.int i :: .null :: rest)) := by
  intro T hT X
  obtain ⟨t, st, q⟩ := k T hT X
  exact ⟨t, X.laloadNull hexec (g := F0 m pc ls (.int i :: .null :: rest)) rfl (rest := rest) rfl (by rw [hb]; exact hdg) t st, q⟩
theorem vx_faloadN (hexec : p.tables.exec = Jvm.exec) (hb : c.code = cc) {i : Int32} (hdg : decode cc pc = .ok (.faload, 1)) (k : vx_NoteN p l e R s m args below meth c H locs cells slots Q (F0 m pc ls rest)) : W p l e R s m args below meth c H locs cells slots Q (F0 m pc ls (.int i :: .null :: rest)) := by
  intro T hT X
  obtain ⟨t, st, q⟩ := k T hT X
  exact ⟨t, X.faloadNull hexec (g := F0 m pc ls (.int i :: .null :: rest)) rfl (rest := rest) rfl (by rw [hb]; exact hdg) t st, q⟩
theorem vx_daloadN (hexec : p.tables.exec = Jvm.exec) (hb : c.code = cc) {i : Int32} (hdg : decode cc pc = .ok (.daload, 1)) (k : vx_NoteN p l e R s m args below meth c H locs cells slots Q (F0 m pc ls rest)) : W p l e R s m args below meth c H locs cells slots Q (F0 m pc ls (.int i :: .null :: rest)) := by
  intro T hT X
  obtain ⟨t, st, q⟩ := k T hT X
  exact ⟨t, X.daloadNull hexec (g := F0 m pc ls (.int i :: .null :: rest)) rfl (rest := rest) rfl (by rw [hb]; exact hdg) t st, q⟩
theorem vx_aaloadN (hexec : p.tables.exec = Jvm.exec) (hb : c.code = cc) {i : Int32} (hdg : decode cc pc = .ok (.aaload, 1)) (k : vx_NoteN p l e R s m args below meth c H locs cells slots Q (F0 m pc ls rest)) : W p l e R s m args below meth c H locs cells slots Q (F0 m pc ls (.int i :: .null :: rest)) := by
  intro T hT X
  obtain ⟨t, st, q⟩ := k T hT X
  exact ⟨t, X.aaloadNull hexec (g := F0 m pc ls (.int i :: .null :: rest)) rfl (rest := rest) rfl (by rw [hb]; exact hdg) t st, q⟩
theorem vx_baloadN (hexec : p.tables.exec = Jvm.exec) (hb : c.code = cc) {i : Int32} (hdg : decode cc pc = .ok (.baload, 1)) (k : vx_NoteN p l e R s m args below meth c H locs cells slots Q (F0 m pc ls rest)) : W p l e R s m args below meth c H locs cells slots Q (F0 m pc ls (.int i :: .null :: rest)) := by
  intro T hT X
  obtain ⟨t, st, q⟩ := k T hT X
  exact ⟨t, X.baloadNull hexec (g := F0 m pc ls (.int i :: .null :: rest)) rfl (rest := rest) rfl (by rw [hb]; exact hdg) t st, q⟩
theorem vx_caloadN (hexec : p.tables.exec = Jvm.exec) (hb : c.code = cc) {i : Int32} (hdg : decode cc pc = .ok (.caload, 1)) (k : vx_NoteN p l e R s m args below meth c H locs cells slots Q (F0 m pc ls rest)) : W p l e R s m args below meth c H locs cells slots Q (F0 m pc ls (.int i :: .null :: rest)) := by
  intro T hT X
  obtain ⟨t, st, q⟩ := k T hT X
  exact ⟨t, X.caloadNull hexec (g := F0 m pc ls (.int i :: .null :: rest)) rfl (rest := rest) rfl (by rw [hb]; exact hdg) t st, q⟩
theorem vx_saloadN (hexec : p.tables.exec = Jvm.exec) (hb : c.code = cc) {i : Int32} (hdg : decode cc pc = .ok (.saload, 1)) (k : vx_NoteN p l e R s m args below meth c H locs cells slots Q (F0 m pc ls rest)) : W p l e R s m args below meth c H locs cells slots Q (F0 m pc ls (.int i :: .null :: rest)) := by
  intro T hT X
  obtain ⟨t, st, q⟩ := k T hT X
  exact ⟨t, X.saloadNull hexec (g := F0 m pc ls (.int i :: .null :: rest)) rfl (rest := rest) rfl (by rw [hb]; exact hdg) t st, q⟩
theorem vx_iastoreN (hexec : p.tables.exec = Jvm.exec) (hb : c.code = cc) {x : Int32} {i : Int32} (hdg : decode cc pc = .ok (.iastore, 1)) (k : vx_NoteN p l e R s m args below meth c H locs cells slots Q (F0 m pc ls rest)) : W p l e R s m args below meth c H locs cells slots Q (F0 m pc ls (.int x :: .int i :: .null :: rest)) := by
  intro T hT X
  obtain ⟨t, st, q⟩ := k T hT X
  exact ⟨t, X.iastoreNull hexec (g := F0 m pc ls (.int x :: .int i :: .null :: rest)) rfl (rest := rest) rfl (by rw [hb]; exact hdg) t st, q⟩
theorem vx_lastoreN (hexec : p.tables.exec = Jvm.exec) (hb : c.code = cc) {x : Int64} {i : Int32} (hdg : decode cc pc = .ok (.lastore, 1)) (k : vx_NoteN p l e R s m args below meth c H locs cells slots Q (F0 m pc ls rest)) : W p l e R s m args below meth c H locs cells slots Q (F0 m pc ls (.long x :: .int i :: .null :: rest)) := by
  intro T hT X
  obtain ⟨t, st, q⟩ := k T hT X
  exact ⟨t, X.lastoreNull hexec (g := F0 m pc ls (.long x :: .int i :: .null :: rest)) rfl (rest := rest) rfl (by rw [hb]; exact hdg) t st, q⟩
theorem vx_fastoreN (hexec : p.tables.exec = Jvm.exec) (hb : c.code = cc) {x : UInt32} {i : Int32} (hdg : decode cc pc = .ok (.fastore, 1)) (k : vx_NoteN p l e R s m args below meth c H locs cells slots Q (F0 m pc ls rest)) : W p l e R s m args below meth c H locs cells slots Q (F0 m pc ls (.float x :: .int i :: .null :: rest)) := by
  intro T hT X
  obtain ⟨t, st, q⟩ := k T hT X
  exact ⟨t, X.fastoreNull hexec (g := F0 m pc ls (.float x :: .int i :: .null :: rest)) rfl (rest := rest) rfl (by rw [hb]; exact hdg) t st, q⟩
theorem vx_dastoreN (hexec : p.tables.exec = Jvm.exec) (hb : c.code = cc) {x : UInt64} {i : Int32} (hdg : decode cc pc = .ok (.dastore, 1)) (k : vx_NoteN p l e R s m args below meth c H locs cells slots Q (F0 m pc ls rest)) : W p l e R s m args below meth c H locs cells slots Q (F0 m pc ls (.double x :: .int i :: .null :: rest)) := by
  intro T hT X
  obtain ⟨t, st, q⟩ := k T hT X
  exact ⟨t, X.dastoreNull hexec (g := F0 m pc ls (.double x :: .int i :: .null :: rest)) rfl (rest := rest) rfl (by rw [hb]; exact hdg) t st, q⟩
theorem vx_bastoreN (hexec : p.tables.exec = Jvm.exec) (hb : c.code = cc) {x : Int32} {i : Int32} (hdg : decode cc pc = .ok (.bastore, 1)) (k : vx_NoteN p l e R s m args below meth c H locs cells slots Q (F0 m pc ls rest)) : W p l e R s m args below meth c H locs cells slots Q (F0 m pc ls (.int x :: .int i :: .null :: rest)) := by
  intro T hT X
  obtain ⟨t, st, q⟩ := k T hT X
  exact ⟨t, X.bastoreNull hexec (g := F0 m pc ls (.int x :: .int i :: .null :: rest)) rfl (rest := rest) rfl (by rw [hb]; exact hdg) t st, q⟩
theorem vx_castoreN (hexec : p.tables.exec = Jvm.exec) (hb : c.code = cc) {x : Int32} {i : Int32} (hdg : decode cc pc = .ok (.castore, 1)) (k : vx_NoteN p l e R s m args below meth c H locs cells slots Q (F0 m pc ls rest)) : W p l e R s m args below meth c H locs cells slots Q (F0 m pc ls (.int x :: .int i :: .null :: rest)) := by
  intro T hT X
  obtain ⟨t, st, q⟩ := k T hT X
  exact ⟨t, X.castoreNull hexec (g := F0 m pc ls (.int x :: .int i :: .null :: rest)) rfl (rest := rest) rfl (by rw [hb]; exact hdg) t st, q⟩
theorem vx_sastoreN (hexec : p.tables.exec = Jvm.exec) (hb : c.code = cc) {x : Int32} {i : Int32} (hdg : decode cc pc = .ok (.sastore, 1)) (k : vx_NoteN p l e R s m args below meth c H locs cells slots Q (F0 m pc ls rest)) : W p l e R s m args below meth c H locs cells slots Q (F0 m pc ls (.int x :: .int i :: .null :: rest)) := by
  intro T hT X
  obtain ⟨t, st, q⟩ := k T hT X
  exact ⟨t, X.sastoreNull hexec (g := F0 m pc ls (.int x :: .int i :: .null :: rest)) rfl (rest := rest) rfl (by rw [hb]; exact hdg) t st, q⟩
theorem vx_invokeN {own C : String} {index maxL : Nat} {y : MethodName} {bytes : ByteArray} {ret : Option FieldType} (hexec : p.tables.exec = Jvm.exec) (hb : c.code = cc) (hown : s.vm.findClass own = some m.cls) (hlink : (Cond.methodLink own index y).before args s = true) (hinst : (Cond.instanceMethod y).before args s = true) (hcode : (Cond.code y bytes maxL ret).before args s = true) (hsel : (Cond.selects C y y).before args s = true)
    (hx : y.cls ≠ "java/lang/invoke/MethodHandle" ∧ y.cls ≠ "java/lang/invoke/VarHandle") {As : List Value} (hlen : (parseMethodDescriptor y.desc).map (fun d => d.parameters.length) = some As.length) (hdg : decode cc pc = .ok (.invokevirtual index, 3))
    (k : vx_NoteN p l e R s m args below meth c H locs cells slots Q (F0 m pc ls rest)) {st0 : List Value} (hst : st0 = As.reverse ++ .null :: rest) : W p l e R s m args below meth c H locs cells slots Q (F0 m pc ls st0) := by
  intro T hT X
  obtain ⟨r0, r, hn, hrm, hstR, hsigR⟩ := va_Decl.of hinst hcode
  obtain ⟨c2, r2, m2, q1, q2, q3, q4, kP, hkP, hkPi⟩ := Cond.selects_spec hsel
  cases hn.symm.trans q3
  have hl9 : As.length = r.sig.parameters.length := by
    rw [hsigR] at hlen
    exact (Option.some.inj hlen).symm
  obtain ⟨vm', X1, st1⟩ := X.invokevirtualNull hexec hown hlink hn hrm hstR hkP hkPi hx (g := F0 m pc ls st0) rfl (argsL := As) (rest := rest) hl9 hst (by rw [hb]; exact hdg)
  obtain ⟨t, st, q⟩ := k (T.setVm vm') hT X1
  exact ⟨t, st1 t st, q⟩
theorem vx_newarrayZ {atype : ArrayType} (hexec : p.tables.exec = Jvm.exec) (hb : c.code = cc) {n : Int32} (h0 : n < 0) (hdg : decode cc pc = .ok (.newarray atype, 2)) (k : ∀ tx : String, tx = toString n → vx_Note p l e R s m args below meth c H locs cells slots Q (F0 m pc ls rest) "java/lang/NegativeArraySizeException" tx) : W p l e R s m args below meth c H locs cells slots Q (F0 m pc ls (.int n :: rest)) := by
  intro T hT X
  obtain ⟨t, st, q⟩ := k _ rfl T hT X
  exact ⟨t, X.newarrayNegative hexec (g := F0 m pc ls (.int n :: rest)) rfl h0 (rest := rest) rfl (by rw [hb]; exact hdg) t st, q⟩
end
end VXM
/-! ===== END ===== -/
/-! ===== BEGIN an exception as an object: made, kept, thrown later (no traces kept) ===== -/
section VXK
variable {p : Program} {l : Launch} {e : Env} {R : Room} {s : State} {m₀ : MethodId} {args : Array Value} {below : List Frame} {meth : Method} {c : Code} {W : State} {locs : List Loc} {cells slots : Nat}
set_option maxHeartbeats 1000000 in
theorem vx_ctorMadeS (X : Stand p l e R s m₀ args below meth c W locs cells slots) (hexec : p.tables.exec = Jvm.exec) (htr : e.platform.stackTraces = false) {own cls : String} {names : List String} {ic : Nat}
    (hown : s.vm.findClass own = some m₀.cls) (hcls : Bundle.fit cls = true) (hnames : ∀ n ∈ names, Bundle.fit n = true)
    (h : ∀ a ∈ Bundle.ownAtoms own ic cls names, a.before args s = true)
    (hlocs : ∀ x ∈ locs, ∀ cell, s.heap[x.base]? = some cell → cell.vm.isStatics = false)
    {a : Addr} {cX : ClassId} {kX : Class} (hfoundX : s.vm.findClass cls = some cX) (hkX : s.vm.classes[cX]? = some kX) (hcell : W.heap[a]? = some (freshCell cX kX)) (hnew : s.heap.size ≤ a)
    {msg : Value} (hmsg : msg.isRef = true)
    {g : JFrame} (hg : g.method = m₀) (hsize : g.locals.size = c.maxLocals) {rest : List Value} (hstack : g.stack = msg :: .ref a :: .ref a :: rest)
    (hd6 : decode c.code g.pc = .ok (.invokespecial ic, 3))
    (hRframes : names.length + 3 < R.frames) (hRlocals : 2 * g.monitorRoom + ((Value.ref a :: rest).map fun v => v.category).sum + (13 * (names.length + 1) + 42) ≤ R.locals) :
    ∃ (V : State) (ce : Cell) (L : List Loc), Stand p l e R s m₀ args below meth c (V.setCell a ce) (locs ++ L) cells slots ∧ (∀ y ∈ L, y.base = a) ∧ a < V.heap.size ∧ ce.cls = cX ∧ ce.vm = .none ∧
      ∀ target, Steps p.tables e below ((V.setCell a ce).setTop { g with stack := .ref a :: rest, pc := g.pc + 3 }) target → Steps p.tables e below (W.setTop g) target := by
  have howns : e.platform.frameOwnsMonitors = true := by rw [X.admits.platform]
  have hfin : e.platform.finalization = false := by rw [X.admits.platform]
  have hpl : e.platform.magicAccessors = ({} : Platform).magicAccessors := by rw [X.admits.platform]
  have a' : ∀ x, x ∈ Bundle.ownAtoms own ic cls names → x.holds args s none s [] = true := fun x hx => h x hx
  obtain ⟨T, Z0, L, -, Y⟩ := ThrowableC.of_atoms (args := args) howns hfin hpl (fun x hx => h x (by simp [Bundle.ownAtoms, hx]))
  obtain ⟨Z, M, LZ, LM, hnZ⟩ := Init0T.ofS_atoms (args := args) hpl L Y (fun x hx => h x (by simp [Bundle.ownAtoms, hx]))
  obtain ⟨P1, Ps, hlen, L1, hL, hP1m, hlink1, hlink⟩ := Bundle.chainS (args := args) hpl hnZ names cls hcls hnames (fun x hx => h x (by simp [Bundle.ownAtoms, hx]))
  have hfound : s.vm.findClass cls = some P1.m.cls := findClass_of_methodNamed hP1m
  cases Option.some.inj (hfoundX.symm.trans hfound)
  obtain ⟨c1, kX', hc1, hk, hord, -, -, hn6⟩ := Cond.instantiable_spec (a' (.instantiable cls 6) (by simp [Bundle.ownAtoms]))
  cases Option.some.inj (hc1.symm.trans hfound)
  cases Option.some.inj (hkX.symm.trans hk)
  have hsel0 : selectMethod e.platform s.vm P1.m.cls T.fill0 = .method T.fill0 := by
    obtain ⟨c2, r2, m2, q1, q2, q3, q4, -⟩ := Cond.selects_spec (a' (.selects cls Bundle.tFill0 Bundle.tFill0) (by simp [Bundle.ownAtoms]))
    cases Option.some.inj (q1.symm.trans hfound)
    cases Option.some.inj (q2.symm.trans (State.methodFound?_of_named Y.fill0 (by decide)))
    cases Option.some.inj (q3.symm.trans Y.fill0)
    rw [Launch.admits_selectMethod X.admits]; exact q4
  have hselF : selectMethod e.platform s.vm P1.m.cls T.fill = .method T.fill := by
    obtain ⟨c2, r2, m2, q1, q2, q3, q4, -⟩ := Cond.selects_spec (a' (.selects cls Bundle.tFill Bundle.tFill) (by simp [Bundle.ownAtoms]))
    cases Option.some.inj (q1.symm.trans hfound)
    cases Option.some.inj (q2.symm.trans (State.methodFound?_of_named Y.fill (by decide)))
    cases Option.some.inj (q3.symm.trans Y.fill)
    rw [Launch.admits_selectMethod X.admits]; exact q4
  obtain ⟨cellS0, hcS0, hiss⟩ := Y.statics
  obtain ⟨u0, hu0⟩ := Cond.staticRefV Y.unassigned L.unassignedStatic L.statics hcS0 hiss (a' (.isRef (.static Bundle.tN "UNASSIGNED_STACK" Bundle.steD)) (by simp [Bundle.ownAtoms]))
  obtain ⟨sen, hsen⟩ := Cond.staticRefV Y.sentinel L.sentinelStatic L.statics hcS0 hiss (a' (.isRef (.static Bundle.tN "SUPPRESSED_SENTINEL" Bundle.listD)) (by simp [Bundle.ownAtoms]))
  obtain ⟨ci198, i198, fB, hk198, hg198, ha198, hsB, -, hnB, htB, hffB⟩ := Cond.ownField (t := .object "java/lang/Object") Y.found L.cls (by decide +kernel) (a' (.fieldLink Bundle.tN 198 Bundle.tN "backtrace" "Ljava/lang/Object;") (by simp [Bundle.ownAtoms])) (a' (.lays Bundle.tN Bundle.tN "backtrace" "Ljava/lang/Object;") (by simp [Bundle.ownAtoms])) e.platform hpl
  obtain ⟨cellS, hcS', heS, -, hkeep⟩ := X.same.2.2.2.2.2 T.aS cellS0 hcS0
  have hcellS : W.heap[T.aS]? = some cellS := hcS'
  have hout' : ∀ i, (⟨T.aS, i⟩ : Loc) ∉ locs := fun i hmem => by
    have := hlocs _ hmem cellS0 hcS0
    rw [hiss] at this; cases this
  have hknownS : cellS.vm ≠ .unknown := by
    rw [heS]; intro hu
    rw [show cellS0.vm = .unknown from hu] at hiss
    cases hiss
  have hneS : T.aS ≠ a := Nat.ne_of_lt (Nat.lt_of_lt_of_le (Array.getElem?_eq_some_iff.mp hcS0).1 hnew)
  obtain ⟨iM, hffM⟩ := Y.msg
  obtain ⟨tyC, dC, hdC, hdnC⟩ := Cond.laysAt hfound hk Y.cause (a' (.lays cls Bundle.tN "cause" "Ljava/lang/Throwable;") (by simp [Bundle.ownAtoms]))
  obtain ⟨tyS, dS, hdS, hdnS⟩ := Cond.laysAt hfound hk Y.stack (a' (.lays cls Bundle.tN "stackTrace" Bundle.steD) (by simp [Bundle.ownAtoms]))
  obtain ⟨tyP, dP, hdP, hdnP⟩ := Cond.laysAt hfound hk Y.supp (a' (.lays cls Bundle.tN "suppressedExceptions" Bundle.listD) (by simp [Bundle.ownAtoms]))
  obtain ⟨tyM, dM, hdM, hdnM⟩ := Cond.laysAt hfound hk hffM (a' (.lays cls Bundle.tN "detailMessage" "Ljava/lang/String;") (by simp [Bundle.ownAtoms]))
  obtain ⟨tyB, dB, hdB, hdnB⟩ := Cond.laysAt hfound hk hffB (a' (.lays cls Bundle.tN "backtrace" "Ljava/lang/Object;") (by simp [Bundle.ownAtoms]))
  have bC := Cond.laysApart hdB hdC hdnB hdnC (by rw [hnB, Y.causeName]; decide)
  have bS := Cond.laysApart hdB hdS hdnB hdnS (by rw [hnB, Y.stackName]; decide)
  have bP := Cond.laysApart hdB hdP hdnB hdnP (by rw [hnB, Y.suppName]; decide)
  have hskip : SkipFacts T e.platform s (fun u => u) u0 ((preparedCellV T.toThrowableT (freshCell P1.m.cls kX) a u0 sen).withEntry W.cur) :=
    ⟨{ ci198 := ci198, i198 := i198, fBack := fB }, ⟨hk198, hg198, ha198, hsB⟩, by
      have := fresh_default (c := P1.m.cls) tyB
      rw [htB] at this
      simpa [preparedCellV, Cell.setSlot, Cell.withEntry, Array.getElem?_setIfInBounds, bC, bS, bP, bC.symm, bS.symm, bP.symm, defaultValue] using this, fun _ _ => rfl⟩
  obtain ⟨tm, methC, cdC, kC, vm₁, hnC, -, -, -, -, -, -, -, hW₁, st1⟩ := Steps.initColdS (tb := p.tables) (e := e) (below := below) (s := s) (U := W) X.here hexec X.warmed hpl hown (t := Bundle.initS cls) rfl rfl (Bundle.fit_spec hcls).2
    (a' (.methodLink own ic (Bundle.initS cls)) (by simp [Bundle.ownAtoms])) (h (.instanceMethod (Bundle.initS cls)) (by cases names <;> simp [Bundle.ownAtoms, Bundle.chainSAtoms, Bundle.passSAtoms])) (bytes := Bundle.six) (maxL := 2) (h (.code (Bundle.initS cls) Bundle.six 2 none) (by cases names <;> simp [Bundle.ownAtoms, Bundle.chainSAtoms, Bundle.passSAtoms]))
    (f := g) hg (a := a) (msg := msg) (rest := .ref a :: rest) hstack hd6
  cases Option.some.inj (hnC.symm.trans hP1m)
  have X₁ := X.noted hW₁
  obtain ⟨vm₂, X₂, st2⟩ := X₁.ctorMessageOffV hexec (g := { g with stack := .ref a :: rest }) hg hsize T L Z LZ M LM (P1 :: Ps)
    (fun P hP => by rcases List.mem_cons.mp hP with rfl | hP; exact L1; exact hL P hP) ⟨hlink1, hlink⟩ (u0 := u0) (sen := sen) (self := a) hmsg (cell := freshCell P1.m.cls kX) (cellS := cellS)
    hcell (fun _ => by simp) (by simp) rfl rfl hsel0 hselF hcellS hneS hknownS (by rw [hkeep _ (hout' _)]; exact hu0) (by rw [hkeep _ (hout' _)]; exact hsen)
    (Takes.of_laid hk hord tyC (by rw [Y.causeType]; rfl)) (Takes.of_laid hk hord tyS (by rw [Y.stackType]; exact fits_refV_array _ u0)) (Takes.of_laid hk hord tyP (by rw [Y.suppType]; exact fits_refV_object _ sen))
    (Takes.of_laid hk hord tyM (by rw [Y.msgType]; exact fits_refV_object _ ⟨msg, hmsg⟩)) Y.objLocals hskip htr [] hd6
    (by simp only [List.length_cons, hlen]; omega) (by simp only [List.length_cons, hlen]; exact hRlocals)
  have hlt : a < ((W.setVm vm₁).setVm vm₂).heap.size := (Array.getElem?_eq_some_iff.mp hcell).1
  refine ⟨(W.setVm vm₁).setVm vm₂, _, _, X₂, fun y hy => ?_, hlt, rfl, rfl, fun target hwalk => st1 _ (fun acts => ?_)⟩
  · simp only [List.mem_cons, List.not_mem_nil, or_false] at hy
    rcases hy with rfl | rfl | rfl | rfl | rfl <;> rfl
  · rw [doInvoke_state]
    exact st2 _ hwalk
set_option maxHeartbeats 1000000 in
theorem vx_ctorMade0 (X : Stand p l e R s m₀ args below meth c W locs cells slots) (hexec : p.tables.exec = Jvm.exec) (htr : e.platform.stackTraces = false) {own cls : String} {names : List String} {ic : Nat}
    (hown : s.vm.findClass own = some m₀.cls) (hcls : Bundle.fit cls = true) (hnames : ∀ n ∈ names, Bundle.fit n = true)
    (h : ∀ a ∈ Bundle.ownAtoms0 own ic cls names, a.before args s = true)
    (hlocs : ∀ x ∈ locs, ∀ cell, s.heap[x.base]? = some cell → cell.vm.isStatics = false)
    {a : Addr} {cX : ClassId} {kX : Class} (hfoundX : s.vm.findClass cls = some cX) (hkX : s.vm.classes[cX]? = some kX) (hcell : W.heap[a]? = some (freshCell cX kX)) (hnew : s.heap.size ≤ a)
    {g : JFrame} (hg : g.method = m₀) (hsize : g.locals.size = c.maxLocals) {rest : List Value} (hstack : g.stack = .ref a :: .ref a :: rest)
    (hd6 : decode c.code g.pc = .ok (.invokespecial ic, 3))
    (hRframes : names.length + 3 < R.frames) (hRlocals : 2 * g.monitorRoom + ((Value.ref a :: rest).map fun v => v.category).sum + (13 * (names.length + 1) + 41) ≤ R.locals) :
    ∃ (V : State) (ce : Cell) (L : List Loc), Stand p l e R s m₀ args below meth c (V.setCell a ce) (locs ++ L) cells slots ∧ (∀ y ∈ L, y.base = a) ∧ a < V.heap.size ∧ ce.cls = cX ∧ ce.vm = .none ∧
      ∀ target, Steps p.tables e below ((V.setCell a ce).setTop { g with stack := .ref a :: rest, pc := g.pc + 3 }) target → Steps p.tables e below (W.setTop g) target := by
  have howns : e.platform.frameOwnsMonitors = true := by rw [X.admits.platform]
  have hfin : e.platform.finalization = false := by rw [X.admits.platform]
  have hpl : e.platform.magicAccessors = ({} : Platform).magicAccessors := by rw [X.admits.platform]
  have a' : ∀ x, x ∈ Bundle.ownAtoms0 own ic cls names → x.holds args s none s [] = true := fun x hx => h x hx
  obtain ⟨T, Z, L, LZ, Y⟩ := ThrowableC.of_atoms (args := args) howns hfin hpl (fun x hx => h x (by simp [Bundle.ownAtoms0, hx]))
  obtain ⟨P1, Ps, hlen, L1, hL, hP1m, hlink1, hlink⟩ := Bundle.chain0 (args := args) hpl Y.init0 names cls hcls hnames (fun x hx => h x (by simp [Bundle.ownAtoms0, hx]))
  have hfound : s.vm.findClass cls = some P1.m.cls := findClass_of_methodNamed hP1m
  cases Option.some.inj (hfoundX.symm.trans hfound)
  obtain ⟨c1, kX', hc1, hk, hord, -, -, hn6⟩ := Cond.instantiable_spec (a' (.instantiable cls 6) (by simp [Bundle.ownAtoms0]))
  cases Option.some.inj (hc1.symm.trans hfound)
  cases Option.some.inj (hkX.symm.trans hk)
  have hsel0 : selectMethod e.platform s.vm P1.m.cls T.fill0 = .method T.fill0 := by
    obtain ⟨c2, r2, m2, q1, q2, q3, q4, -⟩ := Cond.selects_spec (a' (.selects cls Bundle.tFill0 Bundle.tFill0) (by simp [Bundle.ownAtoms0]))
    cases Option.some.inj (q1.symm.trans hfound)
    cases Option.some.inj (q2.symm.trans (State.methodFound?_of_named Y.fill0 (by decide)))
    cases Option.some.inj (q3.symm.trans Y.fill0)
    rw [Launch.admits_selectMethod X.admits]; exact q4
  have hselF : selectMethod e.platform s.vm P1.m.cls T.fill = .method T.fill := by
    obtain ⟨c2, r2, m2, q1, q2, q3, q4, -⟩ := Cond.selects_spec (a' (.selects cls Bundle.tFill Bundle.tFill) (by simp [Bundle.ownAtoms0]))
    cases Option.some.inj (q1.symm.trans hfound)
    cases Option.some.inj (q2.symm.trans (State.methodFound?_of_named Y.fill (by decide)))
    cases Option.some.inj (q3.symm.trans Y.fill)
    rw [Launch.admits_selectMethod X.admits]; exact q4
  obtain ⟨cellS0, hcS0, hiss⟩ := Y.statics
  obtain ⟨u0, hu0⟩ := Cond.staticRefV Y.unassigned L.unassignedStatic L.statics hcS0 hiss (a' (.isRef (.static Bundle.tN "UNASSIGNED_STACK" Bundle.steD)) (by simp [Bundle.ownAtoms0]))
  obtain ⟨sen, hsen⟩ := Cond.staticRefV Y.sentinel L.sentinelStatic L.statics hcS0 hiss (a' (.isRef (.static Bundle.tN "SUPPRESSED_SENTINEL" Bundle.listD)) (by simp [Bundle.ownAtoms0]))
  obtain ⟨ci198, i198, fB, hk198, hg198, ha198, hsB, -, hnB, htB, hffB⟩ := Cond.ownField (t := .object "java/lang/Object") Y.found L.cls (by decide +kernel) (a' (.fieldLink Bundle.tN 198 Bundle.tN "backtrace" "Ljava/lang/Object;") (by simp [Bundle.ownAtoms0])) (a' (.lays Bundle.tN Bundle.tN "backtrace" "Ljava/lang/Object;") (by simp [Bundle.ownAtoms0])) e.platform hpl
  obtain ⟨cellS, hcS', heS, -, hkeep⟩ := X.same.2.2.2.2.2 T.aS cellS0 hcS0
  have hcellS : W.heap[T.aS]? = some cellS := hcS'
  have hout' : ∀ i, (⟨T.aS, i⟩ : Loc) ∉ locs := fun i hmem => by
    have := hlocs _ hmem cellS0 hcS0
    rw [hiss] at this; cases this
  have hknownS : cellS.vm ≠ .unknown := by
    rw [heS]; intro hu
    rw [show cellS0.vm = .unknown from hu] at hiss
    cases hiss
  have hneS : T.aS ≠ a := Nat.ne_of_lt (Nat.lt_of_lt_of_le (Array.getElem?_eq_some_iff.mp hcS0).1 hnew)
  obtain ⟨iM, hffM⟩ := Y.msg
  obtain ⟨tyC, dC, hdC, hdnC⟩ := Cond.laysAt hfound hk Y.cause (a' (.lays cls Bundle.tN "cause" "Ljava/lang/Throwable;") (by simp [Bundle.ownAtoms0]))
  obtain ⟨tyS, dS, hdS, hdnS⟩ := Cond.laysAt hfound hk Y.stack (a' (.lays cls Bundle.tN "stackTrace" Bundle.steD) (by simp [Bundle.ownAtoms0]))
  obtain ⟨tyP, dP, hdP, hdnP⟩ := Cond.laysAt hfound hk Y.supp (a' (.lays cls Bundle.tN "suppressedExceptions" Bundle.listD) (by simp [Bundle.ownAtoms0]))
  obtain ⟨tyM, dM, hdM, hdnM⟩ := Cond.laysAt hfound hk hffM (a' (.lays cls Bundle.tN "detailMessage" "Ljava/lang/String;") (by simp [Bundle.ownAtoms0]))
  obtain ⟨tyB, dB, hdB, hdnB⟩ := Cond.laysAt hfound hk hffB (a' (.lays cls Bundle.tN "backtrace" "Ljava/lang/Object;") (by simp [Bundle.ownAtoms0]))
  have bC := Cond.laysApart hdB hdC hdnB hdnC (by rw [hnB, Y.causeName]; decide)
  have bS := Cond.laysApart hdB hdS hdnB hdnS (by rw [hnB, Y.stackName]; decide)
  have bP := Cond.laysApart hdB hdP hdnB hdnP (by rw [hnB, Y.suppName]; decide)
  have hskip : SkipFacts T e.platform s (fun u => u) u0 ((preparedCellV T.toThrowableT (freshCell P1.m.cls kX) a u0 sen).withEntry W.cur) :=
    ⟨{ ci198 := ci198, i198 := i198, fBack := fB }, ⟨hk198, hg198, ha198, hsB⟩, by
      have := fresh_default (c := P1.m.cls) tyB
      rw [htB] at this
      simpa [preparedCellV, Cell.setSlot, Cell.withEntry, Array.getElem?_setIfInBounds, bC, bS, bP, bC.symm, bS.symm, bP.symm, defaultValue] using this, fun _ _ => rfl⟩
  obtain ⟨tm, methC, cdC, kC, vm₁, hnC, -, -, -, -, -, -, -, hW₁, st1⟩ := Steps.initCold (tb := p.tables) (e := e) (below := below) (s := s) (U := W) X.here hexec X.warmed hpl hown (t := Bundle.init0 cls) rfl rfl (Bundle.fit_spec hcls).2
    (a' (.methodLink own ic (Bundle.init0 cls)) (by simp [Bundle.ownAtoms0])) (h (.instanceMethod (Bundle.init0 cls)) (by cases names <;> simp [Bundle.ownAtoms0, Bundle.chain0Atoms, Bundle.passAtoms])) (bytes := Bundle.five) (maxL := 1) (h (.code (Bundle.init0 cls) Bundle.five 1 none) (by cases names <;> simp [Bundle.ownAtoms0, Bundle.chain0Atoms, Bundle.passAtoms]))
    (f := g) hg (a := a) (rest := .ref a :: rest) hstack hd6
  cases Option.some.inj (hnC.symm.trans hP1m)
  have X₁ := X.noted hW₁
  obtain ⟨vm₂, X₂, st2⟩ := X₁.ctorPlainOffV hexec (g := { g with stack := .ref a :: rest }) hg hsize T L Z LZ (P1 :: Ps)
    (fun P hP => by rcases List.mem_cons.mp hP with rfl | hP; exact L1; exact hL P hP) ⟨hlink1, hlink⟩ (u0 := u0) (sen := sen) (self := a) (cell := freshCell P1.m.cls kX) (cellS := cellS)
    hcell (fun _ => by simp) (by simp) rfl rfl hsel0 hselF hcellS hneS hknownS (by rw [hkeep _ (hout' _)]; exact hu0) (by rw [hkeep _ (hout' _)]; exact hsen)
    (Takes.of_laid hk hord tyC (by rw [Y.causeType]; rfl)) (Takes.of_laid hk hord tyS (by rw [Y.stackType]; exact fits_refV_array _ u0)) (Takes.of_laid hk hord tyP (by rw [Y.suppType]; exact fits_refV_object _ sen)) Y.objLocals hskip htr [] hd6
    (by simp only [List.length_cons, hlen]; omega) (by simp only [List.length_cons, hlen]; exact hRlocals)
  have hlt : a < ((W.setVm vm₁).setVm vm₂).heap.size := (Array.getElem?_eq_some_iff.mp hcell).1
  refine ⟨(W.setVm vm₁).setVm vm₂, _, _, X₂, fun y hy => ?_, hlt, rfl, rfl, fun target hwalk => st1 _ (fun acts => ?_)⟩
  · simp only [List.mem_cons, List.not_mem_nil, or_false] at hy
    rcases hy with rfl | rfl | rfl | rfl <;> rfl
  · rw [doInvoke_state]
    exact st2 _ hwalk
end VXK
section VXK2
variable {p : Program} {l : Launch} {e : Env} {R : Room} {s : State} {m : MethodId} {args : Array Value} {below : List Frame} {meth : Method} {c : Code} {H : Heap} {locs : List Loc} {cells slots : Nat} {Q : State → Prop}
variable {ls : Array Slot} {rest : List Value} {D : va_G} {cl : List vw_C} {tys : List (ClassId × FieldType)} {ws : va_W}
/-- 'new E("text")' that isn't thrown at once: the object goes on the stack -/
theorem vx_makeS {cc : ByteArray} {pc : Nat} (hexec : p.tables.exec = Jvm.exec) (hb : c.code = cc) (hl : l.stackTraces = false) {own cls text : String} {names : List String} {ik is ic sa ci : Nat} {A : Nat → Prop} {T0 : u_T}
    (hown : s.vm.findClass own = some m.cls) (hcls : Bundle.fit cls = true) (hnames : ∀ n ∈ names, Bundle.fit n = true)
    (hk : (Cond.classLink own ik cls).before args s = true) (hini : (Cond.initialized cls).before args s = true) (hstr : vk_R own is text sa s) (hat : ∀ w ∈ vx_atS own ic cls names, w.before args s = true)
    (hgood : ∀ w ∈ Cond.classLink own ik cls :: Cond.initialized cls :: vx_atS own ic cls names, vx_ot w = true)
    (hU : vx_Zq Bundle.tN "UNASSIGNED_STACK" Bundle.steD A s s.heap) (hN : vx_Zq Bundle.tN "SUPPRESSED_SENTINEL" Bundle.listD A s s.heap) (hS : va_S A s.heap H locs) (hsize : ls.size = c.maxLocals)
    (d0 : decode cc pc = .ok (.new ik, 3)) (d3 : decode cc (pc + 3) = .ok (.dup, 1)) (d4 : decode cc (pc + 4) = .ok (.ldc is, 2)) (d6 : decode cc (pc + 6) = .ok (.invokespecial ic, 3))
    (hK : va_K D cl tys s) (hP : va_P D cl ws H) (hD : va_D A ws) (hA : ∀ q, s.heap.size ≤ q → A q) (hc : cl[ci]? = some (cls, T0, 0))
    (hRframes : names.length + 3 < R.frames) (hRlocals : (rest.map fun v => v.category).sum + (13 * (names.length + 1) + 43) ≤ R.locals) (hRcells : cells + 1 ≤ R.cells) (hRslots : slots + 6 ≤ R.slots)
    (kk : ∀ (q : Nat) (H1 : Heap), va_P D cl (ws ++ [(q, .inr (ci, []))]) H1 → va_D A (ws ++ [(q, .inr (ci, []))]) → va_S A s.heap H1 locs → W p l e R s m args below meth c H1 locs (cells + 1) (slots + 6) Q (F0 m (pc + 9) ls (.ref q :: rest))) :
    W p l e R s m args below meth c H locs cells slots Q (F0 m pc ls rest) := by
  intro T hT X
  subst hT
  have htr : e.platform.stackTraces = false := (show e.platform.stackTraces = l.stackTraces by rw [X.admits.platform]).trans hl
  have Y := vx_rebase X (R' := { frames := R.frames, locals := R.locals, cells := 1, slots := 6 }) (Nat.le_refl _) (Nat.le_refl _) hRcells hRslots
  obtain ⟨s', hA'⟩ : ∃ z, z = (T.setVm s.vm).setFrames (.invoking m args :: below) := ⟨_, rfl⟩
  rw [← hA'] at Y
  have hvm : s'.vm = s.vm := by rw [hA']; rfl
  have hhp : s'.heap = T.heap := by rw [hA']; rfl
  have hW0 : s.WarmedH s'.vm := by rw [hvm]; exact State.WarmedH.refl s
  have hat' : ∀ w ∈ vx_atS own ic cls names, w.before args s' = true := fun w hw => vx_ot_at hW0 hvm.symm (hgood w (List.mem_cons_of_mem _ (List.mem_cons_of_mem _ hw))) (hat w hw)
  have hk' : (Cond.classLink own ik cls).before args s' = true := vx_ot_at hW0 hvm.symm (hgood _ List.mem_cons_self) hk
  have hini' : (Cond.initialized cls).before args s' = true := vx_ot_at hW0 hvm.symm (hgood _ (List.mem_cons_of_mem _ List.mem_cons_self)) hini
  have hU' : vx_Zq Bundle.tN "UNASSIGNED_STACK" Bundle.steD A s' s'.heap := by rw [hhp]; exact vx_Zq.moved hW0.alike (hU.kept hS.2.1)
  have hN' : vx_Zq Bundle.tN "SUPPRESSED_SENTINEL" Bundle.listD A s' s'.heap := by rw [hhp]; exact vx_Zq.moved hW0.alike (hN.kept hS.2.1)
  have h : ∀ w ∈ Bundle.ownAtoms own ic cls names, w.before args s' = true := vx_own hat' (vx_isRefq hU'.1) (vx_isRefq hN'.1) hU'.2.word hN'.2.word
  have hown' : s'.vm.findClass own = some m.cls := by rw [hvm]; exact hown
  have hins : (Cond.instantiable cls 6).before args s' = true := h _ (by simp [Bundle.ownAtoms])
  obtain ⟨vm₁, cX, kX, hfX, hkX, -, -, X₁, st1⟩ := Y.newCold hexec (own := own) (C := cls) (index := ik) (n := 6) hown' hk' hins hini'
    (g := F0 m pc ls rest) rfl (by rw [hb]; exact d0) (Nat.le_refl _) (Nat.le_refl _)
  generalize hT1 : (T.setVm vm₁).pushCell { cls := cX, slots := kX.instanceTypes.map defaultValue, vm := .none } = T1 at X₁ st1
  have hcat : (Value.ref T.heap.size).category = 1 := rfl
  have hcellA : T1.heap[T.heap.size]? = some (freshCell cX kX) := by rw [← hT1]; exact State.heap_pushCell_size _ _
  have d3' : decode c.code (pc + 3) = .ok (.dup, 1) := by rw [hb]; exact d3
  have d4' : decode c.code (pc + 4) = .ok (.ldc is, 2) := by rw [hb]; exact d4
  have hstr' : vk_R own is text sa s' := vk_R.warm hW0 hstr
  obtain ⟨V, ce, L, Z, hL, hlt, hcl9, hvm9, st⟩ := vx_ctorMadeS X₁ hexec htr (own := own) (cls := cls) (names := names) (ic := ic) hown' hcls hnames h (fun x hx => nomatch hx) hfX hkX hcellA (by rw [hhp]; exact Nat.le_refl _) (msg := .ref sa) rfl
    (g := { method := m, pc := pc + 6, locals := ls, stack := .ref sa :: .ref T.heap.size :: .ref T.heap.size :: rest, locked := none }) rfl hsize (rest := rest) rfl
    (by rw [hb]; exact d6) hRframes (by simp only [List.map_cons, List.sum_cons, hcat]; omega)
  have Z0 := Stand.forget (locs := []) Z (fun y hy => by rw [hL y hy, hhp]; exact Nat.le_refl _)
  obtain ⟨f1, f2⟩ := vx_frame Z0.same
  rw [hhp] at f1 f2
  have hcid : ce.cls = D.1 ci := by
    rw [hcl9]
    have h1 := (hK.1 ci _ hc).2.1
    rw [hvm] at hfX
    exact Option.some.inj (hfX.symm.trans h1)
  have hh : (V.setCell T.heap.size ce).heap[T.heap.size]? = some ce := heapAt_setCell_self (s := V) ce hlt
  subst hA'
  have X5 := vx_back9 X Y Z0
  have X6 : Stand p l e R s m args below meth c (V.setCell T.heap.size ce) locs (cells + 1) (slots + 6) := { X5 with same := X5.same.mono (by omega) (by omega) }
  have hk9 : ∀ (k : Nat) (x : Nat × va_E), ws[k]? = some x → (V.setCell T.heap.size ce).heap[x.1]? = T.heap[x.1]? := fun k x hx => f2 x.1 ((hP k x hx).lt) (fun z hz => nomatch hz)
  obtain ⟨t, a1, b1⟩ := kk T.heap.size (V.setCell T.heap.size ce).heap ((hP.kept hk9).app (fun k x hx => by
      have hz : k < 1 := (List.getElem?_eq_some_iff.mp hx).1
      rw [show k = 0 by omega] at hx
      cases hx
      exact ⟨_, hc, ce, hh, hcid, hvm9, fun k hk => absurd hk (Nat.not_lt_zero k)⟩)) (hD.push hP rfl (hA _ hS.1)) ⟨Nat.le_trans hS.1 f1, fun q h1 h2 => (f2 q (Nat.lt_of_lt_of_le h1 hS.1) (fun z hz => nomatch hz)).trans (hS.2.1 q h1 h2), hS.2.2⟩ _ rfl X6
  refine ⟨t, st1 _ ?_, b1⟩
  show Steps p.tables e below (T1.setTop { method := m, pc := pc + 3, locals := ls, stack := .ref T.heap.size :: rest, locked := none }) _
  jvm_step X₁.here [X₁.here.top, hexec, d3', Value.category]
  exact X₁.ldcString hexec (own := own) (text := text) (index := is) (a := sa) hown' hstr'.1 hstr'.2
    (g := { method := m, pc := pc + 4, locals := ls, stack := .ref T.heap.size :: .ref T.heap.size :: rest, locked := none }) rfl d4' _ (st _ a1)
/-- 'new E()' that isn't thrown at once: the object goes on the stack -/
theorem vx_make0 {cc : ByteArray} {pc : Nat} (hexec : p.tables.exec = Jvm.exec) (hb : c.code = cc) (hl : l.stackTraces = false) {own cls : String} {names : List String} {ik ic ci : Nat} {A : Nat → Prop} {T0 : u_T}
    (hown : s.vm.findClass own = some m.cls) (hcls : Bundle.fit cls = true) (hnames : ∀ n ∈ names, Bundle.fit n = true)
    (hk : (Cond.classLink own ik cls).before args s = true) (hini : (Cond.initialized cls).before args s = true) (hat : ∀ w ∈ vx_at0 own ic cls names, w.before args s = true)
    (hgood : ∀ w ∈ Cond.classLink own ik cls :: Cond.initialized cls :: vx_at0 own ic cls names, vx_ot w = true)
    (hU : vx_Zq Bundle.tN "UNASSIGNED_STACK" Bundle.steD A s s.heap) (hN : vx_Zq Bundle.tN "SUPPRESSED_SENTINEL" Bundle.listD A s s.heap) (hS : va_S A s.heap H locs) (hsize : ls.size = c.maxLocals)
    (d0 : decode cc pc = .ok (.new ik, 3)) (d3 : decode cc (pc + 3) = .ok (.dup, 1)) (d4 : decode cc (pc + 4) = .ok (.invokespecial ic, 3))
    (hK : va_K D cl tys s) (hP : va_P D cl ws H) (hD : va_D A ws) (hA : ∀ q, s.heap.size ≤ q → A q) (hc : cl[ci]? = some (cls, T0, 0))
    (hRframes : names.length + 3 < R.frames) (hRlocals : (rest.map fun v => v.category).sum + (13 * (names.length + 1) + 42) ≤ R.locals) (hRcells : cells + 1 ≤ R.cells) (hRslots : slots + 6 ≤ R.slots)
    (kk : ∀ (q : Nat) (H1 : Heap), va_P D cl (ws ++ [(q, .inr (ci, []))]) H1 → va_D A (ws ++ [(q, .inr (ci, []))]) → va_S A s.heap H1 locs → W p l e R s m args below meth c H1 locs (cells + 1) (slots + 6) Q (F0 m (pc + 7) ls (.ref q :: rest))) :
    W p l e R s m args below meth c H locs cells slots Q (F0 m pc ls rest) := by
  intro T hT X
  subst hT
  have htr : e.platform.stackTraces = false := (show e.platform.stackTraces = l.stackTraces by rw [X.admits.platform]).trans hl
  have Y := vx_rebase X (R' := { frames := R.frames, locals := R.locals, cells := 1, slots := 6 }) (Nat.le_refl _) (Nat.le_refl _) hRcells hRslots
  obtain ⟨s', hA'⟩ : ∃ z, z = (T.setVm s.vm).setFrames (.invoking m args :: below) := ⟨_, rfl⟩
  rw [← hA'] at Y
  have hvm : s'.vm = s.vm := by rw [hA']; rfl
  have hhp : s'.heap = T.heap := by rw [hA']; rfl
  have hW0 : s.WarmedH s'.vm := by rw [hvm]; exact State.WarmedH.refl s
  have hat' : ∀ w ∈ vx_at0 own ic cls names, w.before args s' = true := fun w hw => vx_ot_at hW0 hvm.symm (hgood w (List.mem_cons_of_mem _ (List.mem_cons_of_mem _ hw))) (hat w hw)
  have hk' : (Cond.classLink own ik cls).before args s' = true := vx_ot_at hW0 hvm.symm (hgood _ List.mem_cons_self) hk
  have hini' : (Cond.initialized cls).before args s' = true := vx_ot_at hW0 hvm.symm (hgood _ (List.mem_cons_of_mem _ List.mem_cons_self)) hini
  have hU' : vx_Zq Bundle.tN "UNASSIGNED_STACK" Bundle.steD A s' s'.heap := by rw [hhp]; exact vx_Zq.moved hW0.alike (hU.kept hS.2.1)
  have hN' : vx_Zq Bundle.tN "SUPPRESSED_SENTINEL" Bundle.listD A s' s'.heap := by rw [hhp]; exact vx_Zq.moved hW0.alike (hN.kept hS.2.1)
  have h : ∀ w ∈ Bundle.ownAtoms0 own ic cls names, w.before args s' = true := vx_own hat' (vx_isRefq hU'.1) (vx_isRefq hN'.1) hU'.2.word hN'.2.word
  have hown' : s'.vm.findClass own = some m.cls := by rw [hvm]; exact hown
  have hins : (Cond.instantiable cls 6).before args s' = true := h _ (by simp [Bundle.ownAtoms0])
  obtain ⟨vm₁, cX, kX, hfX, hkX, -, -, X₁, st1⟩ := Y.newCold hexec (own := own) (C := cls) (index := ik) (n := 6) hown' hk' hins hini'
    (g := F0 m pc ls rest) rfl (by rw [hb]; exact d0) (Nat.le_refl _) (Nat.le_refl _)
  generalize hT1 : (T.setVm vm₁).pushCell { cls := cX, slots := kX.instanceTypes.map defaultValue, vm := .none } = T1 at X₁ st1
  have hcat : (Value.ref T.heap.size).category = 1 := rfl
  have hcellA : T1.heap[T.heap.size]? = some (freshCell cX kX) := by rw [← hT1]; exact State.heap_pushCell_size _ _
  have d3' : decode c.code (pc + 3) = .ok (.dup, 1) := by rw [hb]; exact d3
  obtain ⟨V, ce, L, Z, hL, hlt, hcl9, hvm9, st⟩ := vx_ctorMade0 X₁ hexec htr (own := own) (cls := cls) (names := names) (ic := ic) hown' hcls hnames h (fun x hx => nomatch hx) hfX hkX hcellA (by rw [hhp]; exact Nat.le_refl _)
    (g := { method := m, pc := pc + 4, locals := ls, stack := .ref T.heap.size :: .ref T.heap.size :: rest, locked := none }) rfl hsize (rest := rest) rfl
    (by rw [hb]; exact d4) hRframes (by simp only [List.map_cons, List.sum_cons, hcat]; omega)
  have Z0 := Stand.forget (locs := []) Z (fun y hy => by rw [hL y hy, hhp]; exact Nat.le_refl _)
  obtain ⟨f1, f2⟩ := vx_frame Z0.same
  rw [hhp] at f1 f2
  have hcid : ce.cls = D.1 ci := by
    rw [hcl9]
    have h1 := (hK.1 ci _ hc).2.1
    rw [hvm] at hfX
    exact Option.some.inj (hfX.symm.trans h1)
  have hh : (V.setCell T.heap.size ce).heap[T.heap.size]? = some ce := heapAt_setCell_self (s := V) ce hlt
  subst hA'
  have X5 := vx_back9 X Y Z0
  have X6 : Stand p l e R s m args below meth c (V.setCell T.heap.size ce) locs (cells + 1) (slots + 6) := { X5 with same := X5.same.mono (by omega) (by omega) }
  have hk9 : ∀ (k : Nat) (x : Nat × va_E), ws[k]? = some x → (V.setCell T.heap.size ce).heap[x.1]? = T.heap[x.1]? := fun k x hx => f2 x.1 ((hP k x hx).lt) (fun z hz => nomatch hz)
  obtain ⟨t, a1, b1⟩ := kk T.heap.size (V.setCell T.heap.size ce).heap ((hP.kept hk9).app (fun k x hx => by
      have hz : k < 1 := (List.getElem?_eq_some_iff.mp hx).1
      rw [show k = 0 by omega] at hx
      cases hx
      exact ⟨_, hc, ce, hh, hcid, hvm9, fun k hk => absurd hk (Nat.not_lt_zero k)⟩)) (hD.push hP rfl (hA _ hS.1)) ⟨Nat.le_trans hS.1 f1, fun q h1 h2 => (f2 q (Nat.lt_of_lt_of_le h1 hS.1) (fun z hz => nomatch hz)).trans (hS.2.1 q h1 h2), hS.2.2⟩ _ rfl X6
  refine ⟨t, st1 _ ?_, b1⟩
  show Steps p.tables e below (T1.setTop { method := m, pc := pc + 3, locals := ls, stack := .ref T.heap.size :: rest, locked := none }) _
  jvm_step X₁.here [X₁.here.top, hexec, d3', Value.category]
  exact st _ a1
/-- 'throw x' of an object that was made before -/
theorem vx_athrow {cc : ByteArray} {pc : Nat} (hexec : p.tables.exec = Jvm.exec) (hb : c.code = cc) {q : Addr} (hdg : decode cc pc = .ok (.athrow, 1)) (k : vx_W p l e R s m args below meth c H locs cells slots Q (F0 m pc ls rest) q) : W p l e R s m args below meth c H locs cells slots Q (F0 m pc ls (.ref q :: rest)) := by
  intro T hT X
  obtain ⟨t, st, hq⟩ := k T hT X
  refine ⟨t, ?_, hq⟩
  have hdg' : decode c.code pc = .ok (.athrow, 1) := by rw [hb]; exact hdg
  jvm_step X.here [X.here.top, hexec, hdg', athrow.wp_sem]
  exact st
end VXK2
/-! ===== END ===== -/
/-! ===== BEGIN a constructor that throws (launches without stack traces) ===== -/
section VXIA
variable {p : Program} {l : Launch} {e : Env} {R : Room} {s : State} {m : MethodId} {args : Array Value} {below : List Frame} {meth : Method} {c : Code} {T : State} {locs : List Loc} {cells slots : Nat}
theorem vx_callI (X : Stand p l e R s m args below meth c T locs cells slots) (hexec : p.tables.exec = Jvm.exec) {own : String} {index : Nat} {y : MethodName} {bytes : ByteArray} {maxL : Nat}
    (hown : s.vm.findClass own = some m.cls) (hy1 : y.name = "<init>") (hlink : (Cond.methodLink own index y).before args s = true) (hinst : (Cond.instanceMethod y).before args s = true)
    (hcode : (Cond.code y bytes maxL none).before args s = true) (hy : y.cls ≠ "java/lang/invoke/MethodHandle" ∧ y.cls ≠ "java/lang/invoke/VarHandle")
    {W9 : Nat} {Pre : Pt → Array Value → Prop} {Post : Pt → Array Value → Option Value → Pt → Prop} {PostX : Pt → Array Value → Addr → Pt → Prop} (hK : vx_Back l R p e below s args y 3 W9 Pre Post PostX)
    {g : JFrame} (hg : g.method = m) (hsize : g.locals.size = c.maxLocals) {a : Addr} {argsL rest : List Value} (hlen : ∀ sig, parseMethodDescriptor y.desc = some sig → argsL.length = sig.parameters.length)
    (hstack : g.stack = argsL.reverse ++ .ref a :: rest) (hW : 2 * g.monitorRoom + (rest.map fun v => v.category).sum ≤ W9) (hdg : decode c.code g.pc = .ok (.invokespecial index, 3))
    (hpre : ∀ vm₁, s.WarmedH vm₁ → Pre ⟨T.setVm vm₁, locs, cells, slots⟩ (Value.ref a :: argsL).toArray) :
    (∃ (v : Option Value) (vm₁ : Vm) (B : Pt), s.WarmedH vm₁ ∧ Stand p l e R s m args below meth c B.U B.locs B.cells B.slots ∧ Post ⟨T.setVm vm₁, locs, cells, slots⟩ (Value.ref a :: argsL).toArray v B ∧
      ∀ target, Steps p.tables e below (B.U.setTop { g with pc := g.pc + 3, stack := v.toList ++ rest }) target → Steps p.tables e below (T.setTop g) target) ∨
    (∃ (q : Addr) (vm₁ : Vm) (B : Pt), s.WarmedH vm₁ ∧ Stand p l e R s m args below meth c B.U B.locs B.cells B.slots ∧ PostX ⟨T.setVm vm₁, locs, cells, slots⟩ (Value.ref a :: argsL).toArray q B ∧
      Steps p.tables e below (T.setTop g) ((B.U.setTop { g with stack := rest }).pushFrame (.throwing q))) := by
  subst hg
  have hpl : e.platform.magicAccessors = ({} : Platform).magicAccessors := by rw [X.admits.platform]
  obtain ⟨mk, methM, cM, kP, vm₁, hnamed, hmethM, hcodeM, -, hlocalsM, -, hkP, -, hW₁, hstep₁⟩ := Steps.initColdArgs (e := e) X.here hexec X.warmed hpl hown hy1 hy hlink hinst hcode (f := g) rfl hlen hstack hdg
  have X₁ := X.noted hW₁
  rcases hK g.method meth c ⟨T.setVm vm₁, locs, cells, slots⟩ { g with stack := rest } (.invokespecial index) mk (Value.ref a :: argsL).toArray X₁ rfl hsize hdg hW (X₁.named hnamed) (hpre vm₁ X₁.warmed) with ⟨v, B, X', hpost, hsteps⟩ | ⟨q, B, X', hpost, hsteps⟩
  · exact Or.inl ⟨v, vm₁, B, X₁.warmed, X', hpost, fun target h => hstep₁ _ fun acts => by rw [doInvoke_state]; exact hsteps.trans h⟩
  · exact Or.inr ⟨q, vm₁, B, X₁.warmed, X', hpost, hstep₁ _ fun acts => by rw [doInvoke_state]; exact hsteps⟩
end VXIA
section VXIB
variable {p : Program} {l : Launch} {e : Env} {R : Room} {s : State} {m : MethodId} {args : Array Value} {below : List Frame} {meth : Method} {c : Code} {H : Heap} {locs : List Loc} {cells slots : Nat}
variable {y : MethodName} {bytes cc : ByteArray} {maxL nL mc ms n index : Nat} {ret : Option FieldType} {ws : List Cond} {rm : Room} {Pc : Array Value → State → Prop} {Qc : Array Value → State → Outcome → State → Prop} {XC : String → State → State → Prop} {free : Addr → Prop} {Ts : List Cond} {own C : String} {b : Addr} {As rest : List Value} {g : JFrame}
theorem vx_runI (S : CallFix p m c cc nL s args Ts own) (hM : vx_Met l y ws rm Pc Qc XC mc ms free) (cw : CallB R s args own index y bytes maxL none ws rm mc ms n ∧ y.name = "<init>" ∧ (Cond.instanceMethod y).before args s = true) (hp : PreS s H Pc (.ref b :: As))
    (hg : g.method = m) (hn : As.length = n) (hsize : g.locals.size = nL) (hstack : g.stack = As.reverse ++ .ref b :: rest) (hW : 2 * g.monitorRoom + (rest.map fun v => v.category).sum ≤ 8) (hdg : decode cc g.pc = .ok (.invokespecial index, 3)) (hf : cells + mc ≤ R.cells ∧ slots + ms ≤ R.slots) :
    vx_Run p l e R s m args below meth c H locs cells slots mc ms g rest (Qc (Value.ref b :: As).toArray) XC free := by
  have hK : vx_Back l R p e below s args y 3 8 (PreOf R mc ms Pc) (PostOf Qc mc ms free) (vx_Post XC mc ms free) := vx_callBack cw.1 hM hp.1
  obtain ⟨⟨-, -, -, -, -, -, hcode, -, hy, hlen, hl⟩, hy1, hin⟩ := cw
  obtain ⟨hx, hb, hml, ho, -⟩ := S
  have hPc := hp.2
  intro T hT X
  rcases vx_callI X hx (bytes := bytes) (maxL := maxL) ho hy1 hl hin hcode hy hK hg (hsize.trans hml.symm) (a := b) (argsL := As) (rest := rest) (fun sig h => hn.trans (hlen sig h)) hstack hW (by rw [hb]; exact hdg)
    (fun vm₁ hW₁ => ⟨hf.1, hf.2, hPc (T.setVm vm₁) hT hW₁⟩) with ⟨v, vm₁, ⟨U', l2, c2, s2⟩, hW₁, X', ⟨g', mk, t, L, e1, e2, hq, h1, hL, h2, h3⟩, st⟩ | ⟨q, vm₁, ⟨U', l2, c2, s2⟩, hW₁, X', ⟨g', mk, t, L, E, ce, e1, e2, hq, hce, hcv, hcl, h1, hL, h2, h3⟩, st⟩
  · dsimp only [Pt.U, Pt.locs, Pt.cells, Pt.slots] at X' e1 e2 h1 h2 h3 st
    subst h1; subst h2; subst h3
    exact Or.inl ⟨v, (T.setVm vm₁).calling g' mk (Value.ref b :: As).toArray, t, U', L, hT, X', hL, e1, e2, hq, st⟩
  · dsimp only [Pt.U, Pt.locs, Pt.cells, Pt.slots] at X' e1 e2 h1 h2 h3 st hcl
    subst h1; subst h2; subst h3
    exact Or.inr ⟨q, (T.setVm vm₁).calling g' mk (Value.ref b :: As).toArray, t, U', L, E, ce, hT, X', hL, e1, e2, hq, hce, hcv, vx_cls hW₁ hcl, st⟩
end VXIB
/-! ===== END ===== -/
/-! ===== BEGIN a private constructor of a nest mate that throws ===== -/
section VXIC
variable {p : Program} {l : Launch} {e : Env} {R : Room} {s : State} {m : MethodId} {args : Array Value} {below : List Frame} {meth : Method} {c : Code} {T : State} {locs : List Loc} {cells slots : Nat}
theorem vx_callIN (X : Stand p l e R s m args below meth c T locs cells slots) (hexec : p.tables.exec = Jvm.exec) {own : String} {index : Nat} {host : String} {y : MethodName} {bytes : ByteArray} {maxL : Nat}
    (hown : s.vm.findClass own = some m.cls) (hy1 : y.name = "<init>") (hlink : (Cond.methodLinkNest own index y host).before args s = true) (hinst : (Cond.instanceMethod y).before args s = true)
    (hcode : (Cond.code y bytes maxL none).before args s = true) (hy : y.cls ≠ "java/lang/invoke/MethodHandle" ∧ y.cls ≠ "java/lang/invoke/VarHandle")
    {W9 : Nat} {Pre : Pt → Array Value → Prop} {Post : Pt → Array Value → Option Value → Pt → Prop} {PostX : Pt → Array Value → Addr → Pt → Prop} (hK : vx_Back l R p e below s args y 3 W9 Pre Post PostX)
    {g : JFrame} (hg : g.method = m) (hsize : g.locals.size = c.maxLocals) {a : Addr} {argsL rest : List Value} (hlen : ∀ sig, parseMethodDescriptor y.desc = some sig → argsL.length = sig.parameters.length)
    (hstack : g.stack = argsL.reverse ++ .ref a :: rest) (hW : 2 * g.monitorRoom + (rest.map fun v => v.category).sum ≤ W9) (hdg : decode c.code g.pc = .ok (.invokespecial index, 3))
    (hpre : ∀ vm₁, s.WarmedH vm₁ → Pre ⟨T.setVm vm₁, locs, cells, slots⟩ (Value.ref a :: argsL).toArray) :
    (∃ (v : Option Value) (vm₁ : Vm) (B : Pt), s.WarmedH vm₁ ∧ Stand p l e R s m args below meth c B.U B.locs B.cells B.slots ∧ Post ⟨T.setVm vm₁, locs, cells, slots⟩ (Value.ref a :: argsL).toArray v B ∧
      ∀ target, Steps p.tables e below (B.U.setTop { g with pc := g.pc + 3, stack := v.toList ++ rest }) target → Steps p.tables e below (T.setTop g) target) ∨
    (∃ (q : Addr) (vm₁ : Vm) (B : Pt), s.WarmedH vm₁ ∧ Stand p l e R s m args below meth c B.U B.locs B.cells B.slots ∧ PostX ⟨T.setVm vm₁, locs, cells, slots⟩ (Value.ref a :: argsL).toArray q B ∧
      Steps p.tables e below (T.setTop g) ((B.U.setTop { g with stack := rest }).pushFrame (.throwing q))) := by
  subst hg
  have hpl : e.platform.magicAccessors = ({} : Platform).magicAccessors := by rw [X.admits.platform]
  obtain ⟨mk, methM, cM, kP, vm₁, hnamed, hmethM, hcodeM, -, hlocalsM, -, hkP, -, hW₁, hstep₁⟩ := Steps.initColdArgsNest (e := e) X.here hexec X.warmed hpl hown hy1 hy hlink hinst hcode (f := g) rfl hlen hstack hdg
  have X₁ := X.noted hW₁
  rcases hK g.method meth c ⟨T.setVm vm₁, locs, cells, slots⟩ { g with stack := rest } (.invokespecial index) mk (Value.ref a :: argsL).toArray X₁ rfl hsize hdg hW (X₁.named hnamed) (hpre vm₁ X₁.warmed) with ⟨v, B, X', hpost, hsteps⟩ | ⟨q, B, X', hpost, hsteps⟩
  · exact Or.inl ⟨v, vm₁, B, X₁.warmed, X', hpost, fun target h => hstep₁ _ fun acts => by rw [doInvoke_state]; exact hsteps.trans h⟩
  · exact Or.inr ⟨q, vm₁, B, X₁.warmed, X', hpost, hstep₁ _ fun acts => by rw [doInvoke_state]; exact hsteps⟩
end VXIC
section VXID
variable {p : Program} {l : Launch} {e : Env} {R : Room} {s : State} {m : MethodId} {args : Array Value} {below : List Frame} {meth : Method} {c : Code} {H : Heap} {locs : List Loc} {cells slots : Nat}
theorem vx_runIN {y : MethodName} {bytes cc : ByteArray} {maxL nL mc ms n index : Nat} {ws : List Cond} {rm : Room} {Pc : Array Value → State → Prop} {Qc : Array Value → State → Outcome → State → Prop} {XC : String → State → State → Prop} {free : Addr → Prop} {Ts : List Cond} {own host : String} {b : Addr} {As rest : List Value} {g : JFrame}
    (S : CallFix p m c cc nL s args Ts own) (hM : vx_Met l y ws rm Pc Qc XC mc ms free) (cw : va_CN R s args own index y host bytes maxL none ws rm mc ms n ∧ y.name = "<init>" ∧ (Cond.instanceMethod y).before args s = true) (hp : PreS s H Pc (.ref b :: As))
    (hg : g.method = m) (hn : As.length = n) (hsize : g.locals.size = nL) (hstack : g.stack = As.reverse ++ .ref b :: rest) (hW : 2 * g.monitorRoom + (rest.map fun v => v.category).sum ≤ 8) (hdg : decode cc g.pc = .ok (.invokespecial index, 3)) (hf : cells + mc ≤ R.cells ∧ slots + ms ≤ R.slots) :
    vx_Run p l e R s m args below meth c H locs cells slots mc ms g rest (Qc (Value.ref b :: As).toArray) XC free := by
  obtain ⟨⟨⟨hrc, hrs, hfr, hlo, hws, hcw⟩, hcode, hini, hy, hlen, hl⟩, hx1, hx2⟩ := cw
  have hK : vx_Back l R p e below s args y 3 8 (PreOf R mc ms Pc) (PostOf Qc mc ms free) (vx_Post XC mc ms free) := vx_back (bytes := bytes) (maxL := maxL) (ret := none) hM hp.1 hrc hrs hfr hlo hws hcw (fun a' U hW => word_at hW (Or.inl (by first | rfl | simp [Cond.onTables, Cond.keeps, Cond.steady])) hini)
  obtain ⟨hx, hb, hml, ho, -⟩ := S
  have hPc := hp.2
  intro T hT X
  rcases vx_callIN X hx (bytes := bytes) (maxL := maxL) ho hx1 hl hx2 hcode hy hK hg (hsize.trans hml.symm) (a := b) (argsL := As) (rest := rest) (fun sig h => hn.trans (hlen sig h)) hstack hW (by rw [hb]; exact hdg)
    (fun vm₁ hW₁ => ⟨hf.1, hf.2, hPc (T.setVm vm₁) hT hW₁⟩) with ⟨v, vm₁, ⟨U', l2, c2, s2⟩, hW₁, X', ⟨g', mk, t, L, e1, e2, hq, h1, hL, h2, h3⟩, st⟩ | ⟨q, vm₁, ⟨U', l2, c2, s2⟩, hW₁, X', ⟨g', mk, t, L, E, ce, e1, e2, hq, hce, hcv, hcl, h1, hL, h2, h3⟩, st⟩
  · dsimp only [Pt.U, Pt.locs, Pt.cells, Pt.slots] at X' e1 e2 h1 h2 h3 st
    subst h1; subst h2; subst h3
    exact Or.inl ⟨v, (T.setVm vm₁).calling g' mk (Value.ref b :: As).toArray, t, U', L, hT, X', hL, e1, e2, hq, st⟩
  · dsimp only [Pt.U, Pt.locs, Pt.cells, Pt.slots] at X' e1 e2 h1 h2 h3 st hcl
    subst h1; subst h2; subst h3
    exact Or.inr ⟨q, (T.setVm vm₁).calling g' mk (Value.ref b :: As).toArray, t, U', L, E, ce, hT, X', hL, e1, e2, hq, hce, hcv, vx_cls hW₁ hcl, st⟩
end VXID
/-! ===== END ===== -/
/-! ===== BEGIN a method of a class above, found by the receiver, that may throw (follows va_callVU, va_runU of this kit) ===== -/
section
variable {p : Program} {l : Launch} {e : Env} {R : Room} {s : State} {m : MethodId} {args : Array Value} {below : List Frame} {meth : Method} {c : Code} {H : Heap} {locs : List Loc} {cells slots : Nat}
theorem vx_callVU {T : State} {locs : List Loc} {cells slots : Nat} (X : Stand p l e R s m args below meth c T locs cells slots) (hexec : p.tables.exec = Jvm.exec) {own C owner : String} {index : Nat} {x y : MethodName} {bytes : ByteArray} {maxL : Nat} {ret : Option FieldType}
    (hown : s.vm.findClass own = some m.cls) (hlink : (Cond.methodLink own index x).before args s = true) (hsame : (Cond.sameMethod x.cls owner x.name x.desc).before args s = true)
    (hd0 : va_Decl s ⟨owner, x.name, x.desc⟩) (howner : owner ≠ "java/lang/invoke/MethodHandle" ∧ owner ≠ "java/lang/invoke/VarHandle")
    (hsel : (Cond.selects C x y).before args s = true) (hinst : (Cond.instanceMethod y).before args s = true) (hcode : (Cond.code y bytes maxL ret).before args s = true)
    {W : Nat} {Pre : Pt → Array Value → Prop} {Post : Pt → Array Value → Option Value → Pt → Prop} {PostX : Pt → Array Value → Addr → Pt → Prop} (hK : vx_Back l R p e below s args y 3 W Pre Post PostX)
    {b : Addr} {cellB : Cell} (hcell : T.heap[b]? = some cellB) (hobj : cellB.vm.isStatics = false) (hcls : s.vm.findClass C = some cellB.cls)
    {g : JFrame} (hg : g.method = m) (hsize : g.locals.size = c.maxLocals) {argsL rest : List Value} (hlen : ∀ sig, parseMethodDescriptor x.desc = some sig → argsL.length = sig.parameters.length)
    (hstack : g.stack = argsL.reverse ++ .ref b :: rest) (hW : 2 * g.monitorRoom + (rest.map fun v => v.category).sum ≤ W) (hdg : decode c.code g.pc = .ok (.invokevirtual index, 3))
    (hpre : ∀ vm₁, s.WarmedH vm₁ → Pre ⟨T.setVm vm₁, locs, cells, slots⟩ (Value.ref b :: argsL).toArray) :
    (∃ (v : Option Value) (vm₁ : Vm) (B : Pt), s.WarmedH vm₁ ∧ Stand p l e R s m args below meth c B.U B.locs B.cells B.slots ∧ Post ⟨T.setVm vm₁, locs, cells, slots⟩ (Value.ref b :: argsL).toArray v B ∧
      ∀ target, Steps p.tables e below (B.U.setTop { g with pc := g.pc + 3, stack := v.toList ++ rest }) target → Steps p.tables e below (T.setTop g) target) ∨
    (∃ (q : Addr) (vm₁ : Vm) (B : Pt), s.WarmedH vm₁ ∧ Stand p l e R s m args below meth c B.U B.locs B.cells B.slots ∧ PostX ⟨T.setVm vm₁, locs, cells, slots⟩ (Value.ref b :: argsL).toArray q B ∧
      Steps p.tables e below (T.setTop g) ((B.U.setTop { g with stack := rest }).pushFrame (.throwing q))) := by
  obtain ⟨r0, r, hn, hrm, hstR, hsigR⟩ := hd0
  obtain ⟨cn, ck, r1, hcn, hck, hni, hf, hn1⟩ := Cond.sameMethod_found hsame
  cases hn.symm.trans hn1
  obtain ⟨mk, methM, hnamed, hmethM, -, habM⟩ := Cond.instanceMethod_spec hinst
  obtain ⟨c2, r2, m2, q1, q2, q3, q4, kP, hkP, hkPi⟩ := Cond.selects_spec hsel
  cases hcls.symm.trans q1
  cases hf.symm.trans q2
  cases hnamed.symm.trans q3
  have hselP : selectMethod e.platform s.vm cellB.cls r0 = .method mk := by rw [Launch.admits_selectMethod X.admits]; exact q4
  obtain ⟨vm₁, X₁, hstep₁⟩ := X.invokevirtualUp hexec hown hlink hsame howner hn hrm hstR (a := b) (cell := cellB) hcell
    (fun z h => by rw [h] at hobj; cases hobj) hselP hmethM habM hkP hkPi (g := g) hg (argsL := argsL) (rest := rest) (hlen _ hsigR) hstack hdg
  rcases hK m meth c ⟨T.setVm vm₁, locs, cells, slots⟩ { g with stack := rest } (.invokevirtual index) mk (Value.ref b :: argsL).toArray X₁ hg hsize hdg hW (X₁.named hnamed) (hpre vm₁ X₁.warmed) with ⟨v, B, X', hpost, hsteps⟩ | ⟨q, B, X', hpost, hsteps⟩
  · exact Or.inl ⟨v, vm₁, B, X₁.warmed, X', hpost, fun target h => hstep₁ _ fun acts => by rw [doInvoke_state]; exact hsteps.trans h⟩
  · exact Or.inr ⟨q, vm₁, B, X₁.warmed, X', hpost, hstep₁ _ fun acts => by rw [doInvoke_state]; exact hsteps⟩
theorem vx_runU {x y : MethodName} {bytes cc : ByteArray} {maxL nL mc ms n index : Nat} {ret : Option FieldType} {ws : List Cond} {rm : Room} {Pc : Array Value → State → Prop} {Qc : Array Value → State → Outcome → State → Prop} {XC : String → State → State → Prop} {free : Addr → Prop} {Ts : List Cond} {own C owner : String} {b : Addr} {As rest : List Value} {g : JFrame}
    (S : CallFix p m c cc nL s args Ts own) (hM : vx_Met l y ws rm Pc Qc XC mc ms free) (cw : va_CU R s args own C owner index x y bytes maxL ret ws rm mc ms n) (hp : PreV s H C b Pc As)
    (hg : g.method = m) (hn : As.length = n) (hsize : g.locals.size = nL) (hstack : g.stack = As.reverse ++ .ref b :: rest) (hW : 2 * g.monitorRoom + (rest.map fun v => v.category).sum ≤ 8) (hdg : decode cc g.pc = .ok (.invokevirtual index, 3)) (hf : cells + mc ≤ R.cells ∧ slots + ms ≤ R.slots) :
    vx_Run p l e R s m args below meth c H locs cells slots mc ms g rest (Qc (Value.ref b :: As).toArray) XC free := by
  obtain ⟨hrc, hrs, hfr, hlo, hws, hcw⟩ := cw.back
  have hini := cw.init
  have hK : vx_Back l R p e below s args y 3 8 (PreOf R mc ms Pc) (PostOf Qc mc ms free) (vx_Post XC mc ms free) := vx_back (bytes := bytes) (maxL := maxL) (ret := ret) hM hp.1 hrc hrs hfr hlo hws hcw (fun a' U hW => word_at hW (Or.inl (by first | rfl | simp [Cond.onTables, Cond.keeps, Cond.steady])) hini)
  obtain ⟨hx, hb, hml, ho, -⟩ := S
  obtain ⟨-, ⟨cellB, hcB, hoB, hclB⟩, hPc⟩ := hp
  intro T hT X
  rcases vx_callVU X hx (C := C) (owner := owner) (bytes := bytes) (maxL := maxL) (ret := ret) ho cw.link cw.same cw.decl cw.notMH cw.sel cw.inst cw.code hK (by rw [hT]; exact hcB) hoB hclB hg (hsize.trans hml.symm) (argsL := As) (rest := rest) (fun sig h => hn.trans (cw.len sig h)) hstack hW (by rw [hb]; exact hdg)
    (fun vm₁ hW₁ => ⟨hf.1, hf.2, hPc (T.setVm vm₁) hT hW₁⟩) with ⟨v, vm₁, ⟨U', l2, c2, s2⟩, hW₁, X', ⟨g', mk, t, L, e1, e2, hq, h1, hL, h2, h3⟩, st⟩ | ⟨q, vm₁, ⟨U', l2, c2, s2⟩, hW₁, X', ⟨g', mk, t, L, E, ce, e1, e2, hq, hce, hcv, hcl, h1, hL, h2, h3⟩, st⟩
  · dsimp only [Pt.U, Pt.locs, Pt.cells, Pt.slots] at X' e1 e2 h1 h2 h3 st
    subst h1; subst h2; subst h3
    exact Or.inl ⟨v, (T.setVm vm₁).calling g' mk (Value.ref b :: As).toArray, t, U', L, hT, X', hL, e1, e2, hq, st⟩
  · dsimp only [Pt.U, Pt.locs, Pt.cells, Pt.slots] at X' e1 e2 h1 h2 h3 st hcl
    subst h1; subst h2; subst h3
    exact Or.inr ⟨q, (T.setVm vm₁).calling g' mk (Value.ref b :: As).toArray, t, U', L, E, ce, hT, X', hL, e1, e2, hq, hce, hcv, vx_cls hW₁ hcl, st⟩
end
/-! ===== END ===== -/
/-! ===== BEGIN super.m(..) that may throw (follows va_callSU, va_runSU) ===== -/
section
variable {p : Program} {l : Launch} {e : Env} {R : Room} {s : State} {m : MethodId} {args : Array Value} {below : List Frame} {meth : Method} {c : Code} {H : Heap} {locs : List Loc} {cells slots : Nat}
theorem vx_callSU {T : State} {locs : List Loc} {cells slots : Nat} (X : Stand p l e R s m args below meth c T locs cells slots) (hexec : p.tables.exec = Jvm.exec) {own : String} {index : Nat} {y : MethodName} {bytes : ByteArray} {maxL : Nat} {ret : Option FieldType}
    (hown : s.vm.findClass own = some m.cls) (hlink : (Cond.methodLink own index y).before args s = true) (hsame : (Cond.sameMethod y.cls y.cls y.name y.desc).before args s = true) (hsup : (Cond.superclass own y.cls).before args s = true)
    (hinst : (Cond.instanceMethod y).before args s = true) (hcode : (Cond.code y bytes maxL ret).before args s = true) (hno : y.name ≠ "<init>")
    {W : Nat} {Pre : Pt → Array Value → Prop} {Post : Pt → Array Value → Option Value → Pt → Prop} {PostX : Pt → Array Value → Addr → Pt → Prop} (hK : vx_Back l R p e below s args y 3 W Pre Post PostX)
    {b : Addr} {cellB : Cell} {kB : Class} (hcell : T.heap[b]? = some cellB) (hobj : cellB.vm.isStatics = false) (hkB : s.vm.classes[cellB.cls]? = some kB)
    {g : JFrame} (hg : g.method = m) (hsize : g.locals.size = c.maxLocals) {argsL rest : List Value} (hlen : ∀ sig, parseMethodDescriptor y.desc = some sig → argsL.length = sig.parameters.length)
    (hstack : g.stack = argsL.reverse ++ .ref b :: rest) (hW : 2 * g.monitorRoom + (rest.map fun v => v.category).sum ≤ W) (hdg : decode c.code g.pc = .ok (.invokespecial index, 3))
    (hpre : ∀ vm₁, s.WarmedH vm₁ → Pre ⟨T.setVm vm₁, locs, cells, slots⟩ (Value.ref b :: argsL).toArray) :
    (∃ (v : Option Value) (vm₁ : Vm) (B : Pt), s.WarmedH vm₁ ∧ Stand p l e R s m args below meth c B.U B.locs B.cells B.slots ∧ Post ⟨T.setVm vm₁, locs, cells, slots⟩ (Value.ref b :: argsL).toArray v B ∧
      ∀ target, Steps p.tables e below (B.U.setTop { g with pc := g.pc + 3, stack := v.toList ++ rest }) target → Steps p.tables e below (T.setTop g) target) ∨
    (∃ (q : Addr) (vm₁ : Vm) (B : Pt), s.WarmedH vm₁ ∧ Stand p l e R s m args below meth c B.U B.locs B.cells B.slots ∧ PostX ⟨T.setVm vm₁, locs, cells, slots⟩ (Value.ref b :: argsL).toArray q B ∧
      Steps p.tables e below (T.setTop g) ((B.U.setTop { g with stack := rest }).pushFrame (.throwing q))) := by
  obtain ⟨mk, methM, hnamed, hmethM, hstM, habM⟩ := Cond.instanceMethod_spec hinst
  obtain ⟨methM', cM, hmethM', -, -, -, -, -, -, hsigM⟩ := Cond.code_spec hnamed hcode
  cases hmethM.symm.trans hmethM'
  obtain ⟨ps, dk, kp, hps, hdk, hkp, hsuper, -, -, hnid⟩ := Cond.superclass_spec hown hsup
  have hn : s.methodNamed? ⟨y.cls, y.name, y.desc⟩ = some mk := hnamed
  have hpm : ps = mk.cls := Option.some.inj (hps.symm.trans (findClass_of_methodNamed hnamed))
  have hsub : s.vm.isSubclass ps mk.cls = true := by rw [hpm]; simp [Vm.isSubclass, Vm.isSubclassAux]
  obtain ⟨vm₁, X₁, hstep₁⟩ := X.invokespecialUp hexec hown hlink hsame hn hmethM hstM habM hno hdk hnid hps hsuper hsub (a := b) (cell := cellB) hcell
    (fun z h => by rw [h] at hobj; cases hobj) hkB (g := g) hg (argsL := argsL) (rest := rest) (hlen _ hsigM) hstack hdg
  rcases hK m meth c ⟨T.setVm vm₁, locs, cells, slots⟩ { g with stack := rest } (.invokespecial index) mk (Value.ref b :: argsL).toArray X₁ hg hsize hdg hW (X₁.named hnamed) (hpre vm₁ X₁.warmed) with ⟨v, B, X', hpost, hsteps⟩ | ⟨q, B, X', hpost, hsteps⟩
  · exact Or.inl ⟨v, vm₁, B, X₁.warmed, X', hpost, fun target h => hstep₁ _ (by rw [doInvoke_state]; exact hsteps.trans h)⟩
  · exact Or.inr ⟨q, vm₁, B, X₁.warmed, X', hpost, hstep₁ _ (by rw [doInvoke_state]; exact hsteps)⟩
theorem vx_runSU {y : MethodName} {bytes cc : ByteArray} {maxL nL mc ms n index : Nat} {ret : Option FieldType} {ws : List Cond} {rm : Room} {Pc : Array Value → State → Prop} {Qc : Array Value → State → Outcome → State → Prop} {XC : String → State → State → Prop} {free : Addr → Prop} {Ts : List Cond} {own C : String} {cC : ClassId} {b : Addr} {As rest : List Value} {g : JFrame}
    (hat : ClassAt s C cC) (S : CallFix p m c cc nL s args Ts own) (hM : vx_Met l y ws rm Pc Qc XC mc ms free) (cw : va_CS R s args own index y bytes maxL ret ws rm mc ms n) (hp : PreV s H C b Pc As)
    (hg : g.method = m) (hn : As.length = n) (hsize : g.locals.size = nL) (hstack : g.stack = As.reverse ++ .ref b :: rest) (hW : 2 * g.monitorRoom + (rest.map fun v => v.category).sum ≤ 8) (hdg : decode cc g.pc = .ok (.invokespecial index, 3)) (hf : cells + mc ≤ R.cells ∧ slots + ms ≤ R.slots) :
    vx_Run p l e R s m args below meth c H locs cells slots mc ms g rest (Qc (Value.ref b :: As).toArray) XC free := by
  obtain ⟨⟨hrc, hrs, hfr, hlo, hws, hcw⟩, hl1, hl2, hl3, hl4, hini, hcode, hno, hlen⟩ := cw
  have hK : vx_Back l R p e below s args y 3 8 (PreOf R mc ms Pc) (PostOf Qc mc ms free) (vx_Post XC mc ms free) := vx_back (bytes := bytes) (maxL := maxL) (ret := ret) hM hp.1 hrc hrs hfr hlo hws hcw (fun a' U hW => word_at hW (Or.inl (by first | rfl | simp [Cond.onTables, Cond.keeps, Cond.steady])) hini)
  obtain ⟨hx, hb, hml, ho, -⟩ := S
  obtain ⟨-, ⟨cellB, hcB, hoB, hclB⟩, hPc⟩ := hp
  obtain ⟨hfc, kB, hkB, -⟩ := hat
  cases hfc.symm.trans hclB
  intro T hT X
  rcases vx_callSU X hx (bytes := bytes) (maxL := maxL) (ret := ret) ho hl1 hl2 hl3 hl4 hcode hno hK (by rw [hT]; exact hcB) hoB hkB hg (hsize.trans hml.symm) (argsL := As) (rest := rest) (fun sig h => hn.trans (hlen sig h)) hstack hW (by rw [hb]; exact hdg)
    (fun vm₁ hW₁ => ⟨hf.1, hf.2, hPc (T.setVm vm₁) hT hW₁⟩) with ⟨v, vm₁, ⟨U', l2, c2, s2⟩, hW₁, X', ⟨g', mk, t, L, e1, e2, hq, h1, hL, h2, h3⟩, st⟩ | ⟨q, vm₁, ⟨U', l2, c2, s2⟩, hW₁, X', ⟨g', mk, t, L, E, ce, e1, e2, hq, hce, hcv, hcl, h1, hL, h2, h3⟩, st⟩
  · dsimp only [Pt.U, Pt.locs, Pt.cells, Pt.slots] at X' e1 e2 h1 h2 h3 st
    subst h1; subst h2; subst h3
    exact Or.inl ⟨v, (T.setVm vm₁).calling g' mk (Value.ref b :: As).toArray, t, U', L, hT, X', hL, e1, e2, hq, st⟩
  · dsimp only [Pt.U, Pt.locs, Pt.cells, Pt.slots] at X' e1 e2 h1 h2 h3 st hcl
    subst h1; subst h2; subst h3
    exact Or.inr ⟨q, (T.setVm vm₁).calling g' mk (Value.ref b :: As).toArray, t, U', L, E, ce, hT, X', hL, e1, e2, hq, hce, hcv, vx_cls hW₁ hcl, st⟩
end
/-! ===== END ===== -/
/-! ===== BEGIN a private method of a nest mate that may throw (follows va_callVN, va_callSN, va_runVN, va_runSN) ===== -/
section
variable {p : Program} {l : Launch} {e : Env} {R : Room} {s : State} {m : MethodId} {args : Array Value} {below : List Frame} {meth : Method} {c : Code} {H : Heap} {locs : List Loc} {cells slots : Nat}
variable {T : State}
theorem vx_callVN (X : Stand p l e R s m args below meth c T locs cells slots) (hexec : p.tables.exec = Jvm.exec) {own C : String} {index : Nat} {host : String} {y : MethodName} {bytes : ByteArray} {maxL : Nat} {ret : Option FieldType}
    (hown : s.vm.findClass own = some m.cls) (hlink : (Cond.methodLinkNest own index y host).before args s = true) (hinst : (Cond.instanceMethod y).before args s = true) (hsel : (Cond.selects C y y).before args s = true)
    (hcode : (Cond.code y bytes maxL ret).before args s = true) (hy : y.cls ≠ "java/lang/invoke/MethodHandle" ∧ y.cls ≠ "java/lang/invoke/VarHandle")
    {W : Nat} {Pre : Pt → Array Value → Prop} {Post : Pt → Array Value → Option Value → Pt → Prop} {PostX : Pt → Array Value → Addr → Pt → Prop} (hK : vx_Back l R p e below s args y 3 W Pre Post PostX)
    {b : Addr} {cellB : Cell} (hcell : T.heap[b]? = some cellB) (hobj : cellB.vm.isStatics = false) (hcls : s.vm.findClass C = some cellB.cls)
    {g : JFrame} (hg : g.method = m) (hsize : g.locals.size = c.maxLocals) {argsL rest : List Value} (hlen : ∀ sig, parseMethodDescriptor y.desc = some sig → argsL.length = sig.parameters.length)
    (hstack : g.stack = argsL.reverse ++ .ref b :: rest) (hW : 2 * g.monitorRoom + (rest.map fun v => v.category).sum ≤ W) (hdg : decode c.code g.pc = .ok (.invokevirtual index, 3))
    (hpre : ∀ vm₁, s.WarmedH vm₁ → Pre ⟨T.setVm vm₁, locs, cells, slots⟩ (Value.ref b :: argsL).toArray) :
    (∃ (v : Option Value) (vm₁ : Vm) (B : Pt), s.WarmedH vm₁ ∧ Stand p l e R s m args below meth c B.U B.locs B.cells B.slots ∧ Post ⟨T.setVm vm₁, locs, cells, slots⟩ (Value.ref b :: argsL).toArray v B ∧
      ∀ target, Steps p.tables e below (B.U.setTop { g with pc := g.pc + 3, stack := v.toList ++ rest }) target → Steps p.tables e below (T.setTop g) target) ∨
    (∃ (q : Addr) (vm₁ : Vm) (B : Pt), s.WarmedH vm₁ ∧ Stand p l e R s m args below meth c B.U B.locs B.cells B.slots ∧ PostX ⟨T.setVm vm₁, locs, cells, slots⟩ (Value.ref b :: argsL).toArray q B ∧
      Steps p.tables e below (T.setTop g) ((B.U.setTop { g with stack := rest }).pushFrame (.throwing q))) := by
  obtain ⟨mk, methM, hnamed, hmethM, hstM, habM⟩ := Cond.instanceMethod_spec hinst
  obtain ⟨methM', cM, hmethM', -, -, -, -, -, -, hsigM⟩ := Cond.code_spec hnamed hcode
  cases hmethM.symm.trans hmethM'
  obtain ⟨c2, r2, m2, q1, q2, q3, q4, kP, hkP, hkPi⟩ := Cond.selects_spec hsel
  cases hcls.symm.trans q1
  cases (State.methodFound?_of_named hnamed hy).symm.trans q2
  cases hnamed.symm.trans q3
  have hselP : selectMethod e.platform s.vm cellB.cls mk = .method mk := by rw [Launch.admits_selectMethod X.admits]; exact q4
  obtain ⟨vm₁, X₁, hstep₁⟩ := X.invokevirtualNest hexec hown hlink hnamed hmethM hstM hkP hkPi hy (a := b) (cell := cellB) hcell
    (fun z h => by rw [h] at hobj; cases hobj) hselP hmethM habM hkP hkPi (g := g) hg (argsL := argsL) (rest := rest) (hlen _ hsigM) hstack hdg
  rcases hK m meth c ⟨T.setVm vm₁, locs, cells, slots⟩ { g with stack := rest } (.invokevirtual index) mk (Value.ref b :: argsL).toArray X₁ hg hsize hdg hW (X₁.named hnamed) (hpre vm₁ X₁.warmed) with ⟨v, B, X', hpost, hsteps⟩ | ⟨q, B, X', hpost, hsteps⟩
  · exact Or.inl ⟨v, vm₁, B, X₁.warmed, X', hpost, fun target h => hstep₁ _ fun acts => by rw [doInvoke_state]; exact hsteps.trans h⟩
  · exact Or.inr ⟨q, vm₁, B, X₁.warmed, X', hpost, hstep₁ _ fun acts => by rw [doInvoke_state]; exact hsteps⟩
theorem vx_callSN (X : Stand p l e R s m args below meth c T locs cells slots) (hexec : p.tables.exec = Jvm.exec) {own : String} {index : Nat} {host : String} {y : MethodName} {bytes : ByteArray} {maxL : Nat} {ret : Option FieldType}
    (hown : s.vm.findClass own = some m.cls) (hlink : (Cond.methodLinkNest own index y host).before args s = true) (hstat : (Cond.static y).before args s = true) (hinit : (Cond.initialized y.cls).before args s = true)
    (hcode : (Cond.code y bytes maxL ret).before args s = true) (hy : y.cls ≠ "java/lang/invoke/MethodHandle" ∧ y.cls ≠ "java/lang/invoke/VarHandle")
    {W : Nat} {Pre : Pt → Array Value → Prop} {Post : Pt → Array Value → Option Value → Pt → Prop} {PostX : Pt → Array Value → Addr → Pt → Prop} (hK : vx_Back l R p e below s args y 3 W Pre Post PostX)
    {g : JFrame} (hg : g.method = m) (hsize : g.locals.size = c.maxLocals) {argsL rest : List Value} (hlen : ∀ sig, parseMethodDescriptor y.desc = some sig → argsL.length = sig.parameters.length)
    (hstack : g.stack = argsL.reverse ++ rest) (hW : 2 * g.monitorRoom + (rest.map fun v => v.category).sum ≤ W) (hdg : decode c.code g.pc = .ok (.invokestatic index, 3))
    (hpre : ∀ vm₁, s.WarmedH vm₁ → Pre ⟨T.setVm vm₁, locs, cells, slots⟩ argsL.toArray) :
    (∃ (v : Option Value) (vm₁ : Vm) (B : Pt), s.WarmedH vm₁ ∧ Stand p l e R s m args below meth c B.U B.locs B.cells B.slots ∧ Post ⟨T.setVm vm₁, locs, cells, slots⟩ argsL.toArray v B ∧
      ∀ target, Steps p.tables e below (B.U.setTop { g with pc := g.pc + 3, stack := v.toList ++ rest }) target → Steps p.tables e below (T.setTop g) target) ∨
    (∃ (q : Addr) (vm₁ : Vm) (B : Pt), s.WarmedH vm₁ ∧ Stand p l e R s m args below meth c B.U B.locs B.cells B.slots ∧ PostX ⟨T.setVm vm₁, locs, cells, slots⟩ argsL.toArray q B ∧
      Steps p.tables e below (T.setTop g) ((B.U.setTop { g with stack := rest }).pushFrame (.throwing q))) := by
  obtain ⟨mk, hnamed⟩ := Cond.code_named hcode
  obtain ⟨methM, cM, hmethM, -, -, -, -, -, -, hsigM⟩ := Cond.code_spec hnamed hcode
  have hstatic : methM.isStatic = true := Cond.static_spec hnamed hmethM hstat
  obtain ⟨kP, hkP, -⟩ := className_of_methodNamed hnamed
  have hinitP : kP.init = .initialized := Cond.initialized_spec (findClass_of_methodNamed hnamed) hkP hinit
  obtain ⟨vm₁, X₁, hstep₁⟩ := X.invokestaticNest hexec hown hlink hnamed hmethM hstatic hkP hinitP hy (g := g) hg (argsL := argsL) (rest := rest) (hlen _ hsigM) hstack hdg
  rcases hK m meth c ⟨T.setVm vm₁, locs, cells, slots⟩ { g with stack := rest } (.invokestatic index) mk argsL.toArray X₁ hg hsize hdg hW (X₁.named hnamed) (hpre vm₁ X₁.warmed) with ⟨v, B, X', hpost, hsteps⟩ | ⟨q, B, X', hpost, hsteps⟩
  · exact Or.inl ⟨v, vm₁, B, X₁.warmed, X', hpost, fun target h => hstep₁ _ fun acts => by rw [doInvoke_state]; exact hsteps.trans h⟩
  · exact Or.inr ⟨q, vm₁, B, X₁.warmed, X', hpost, hstep₁ _ fun acts => by rw [doInvoke_state]; exact hsteps⟩
theorem vx_runVN {y : MethodName} {bytes cc : ByteArray} {maxL nL mc ms n index : Nat} {ret : Option FieldType} {ws : List Cond} {rm : Room} {Pc : Array Value → State → Prop} {Qc : Array Value → State → Outcome → State → Prop} {XC : String → State → State → Prop} {free : Addr → Prop} {Ts : List Cond} {own C host : String} {b : Addr} {As rest : List Value} {g : JFrame}
    (S : CallFix p m c cc nL s args Ts own) (hM : vx_Met l y ws rm Pc Qc XC mc ms free) (cw : va_CN R s args own index y host bytes maxL ret ws rm mc ms n ∧ (Cond.instanceMethod y).before args s = true ∧ (Cond.selects C y y).before args s = true) (hp : PreV s H C b Pc As)
    (hg : g.method = m) (hn : As.length = n) (hsize : g.locals.size = nL) (hstack : g.stack = As.reverse ++ .ref b :: rest) (hW : 2 * g.monitorRoom + (rest.map fun v => v.category).sum ≤ 8) (hdg : decode cc g.pc = .ok (.invokevirtual index, 3)) (hf : cells + mc ≤ R.cells ∧ slots + ms ≤ R.slots) :
    vx_Run p l e R s m args below meth c H locs cells slots mc ms g rest (Qc (Value.ref b :: As).toArray) XC free := by
  obtain ⟨⟨⟨hrc, hrs, hfr, hlo, hws, hcw⟩, hcode, hini, hy, hlen, hl⟩, hx1, hx2⟩ := cw
  have hK : vx_Back l R p e below s args y 3 8 (PreOf R mc ms Pc) (PostOf Qc mc ms free) (vx_Post XC mc ms free) := vx_back (bytes := bytes) (maxL := maxL) (ret := ret) hM hp.1 hrc hrs hfr hlo hws hcw (fun a' U hW => word_at hW (Or.inl (by first | rfl | simp [Cond.onTables, Cond.keeps, Cond.steady])) hini)
  obtain ⟨hx, hb, hml, ho, -⟩ := S
  obtain ⟨-, ⟨cellB, hcB, hoB, hclB⟩, hPc⟩ := hp
  intro T hT X
  rcases vx_callVN X hx (C := C) (bytes := bytes) (maxL := maxL) (ret := ret) ho hl hx1 hx2 hcode hy hK (by rw [hT]; exact hcB) hoB hclB hg (hsize.trans hml.symm) (argsL := As) (rest := rest) (fun sig h => hn.trans (hlen sig h)) hstack hW (by rw [hb]; exact hdg)
    (fun vm₁ hW₁ => ⟨hf.1, hf.2, hPc (T.setVm vm₁) hT hW₁⟩) with ⟨v, vm₁, ⟨U', l2, c2, s2⟩, hW₁, X', ⟨g', mk, t, L, e1, e2, hq, h1, hL, h2, h3⟩, st⟩ | ⟨q, vm₁, ⟨U', l2, c2, s2⟩, hW₁, X', ⟨g', mk, t, L, E, ce, e1, e2, hq, hce, hcv, hcl, h1, hL, h2, h3⟩, st⟩
  · dsimp only [Pt.U, Pt.locs, Pt.cells, Pt.slots] at X' e1 e2 h1 h2 h3 st
    subst h1; subst h2; subst h3
    exact Or.inl ⟨v, (T.setVm vm₁).calling g' mk (Value.ref b :: As).toArray, t, U', L, hT, X', hL, e1, e2, hq, st⟩
  · dsimp only [Pt.U, Pt.locs, Pt.cells, Pt.slots] at X' e1 e2 h1 h2 h3 st hcl
    subst h1; subst h2; subst h3
    exact Or.inr ⟨q, (T.setVm vm₁).calling g' mk (Value.ref b :: As).toArray, t, U', L, E, ce, hT, X', hL, e1, e2, hq, hce, hcv, vx_cls hW₁ hcl, st⟩
theorem vx_runSN {y : MethodName} {bytes cc : ByteArray} {maxL nL mc ms n index : Nat} {ret : Option FieldType} {ws : List Cond} {rm : Room} {Pc : Array Value → State → Prop} {Qc : Array Value → State → Outcome → State → Prop} {XC : String → State → State → Prop} {free : Addr → Prop} {Ts : List Cond} {own host : String} {As rest : List Value} {g : JFrame}
    (S : CallFix p m c cc nL s args Ts own) (hM : vx_Met l y ws rm Pc Qc XC mc ms free) (cw : va_CN R s args own index y host bytes maxL ret ws rm mc ms n ∧ (Cond.static y).before args s = true ∧ True) (hp : PreS s H Pc As)
    (hg : g.method = m) (hn : As.length = n) (hsize : g.locals.size = nL) (hstack : g.stack = As.reverse ++ rest) (hW : 2 * g.monitorRoom + (rest.map fun v => v.category).sum ≤ 8) (hdg : decode cc g.pc = .ok (.invokestatic index, 3)) (hf : cells + mc ≤ R.cells ∧ slots + ms ≤ R.slots) :
    vx_Run p l e R s m args below meth c H locs cells slots mc ms g rest (Qc As.toArray) XC free := by
  obtain ⟨⟨⟨hrc, hrs, hfr, hlo, hws, hcw⟩, hcode, hini, hy, hlen, hl⟩, hx1, hx2⟩ := cw
  have hK : vx_Back l R p e below s args y 3 8 (PreOf R mc ms Pc) (PostOf Qc mc ms free) (vx_Post XC mc ms free) := vx_back (bytes := bytes) (maxL := maxL) (ret := ret) hM hp.1 hrc hrs hfr hlo hws hcw (fun a' U hW => word_at hW (Or.inl (by first | rfl | simp [Cond.onTables, Cond.keeps, Cond.steady])) hini)
  obtain ⟨hx, hb, hml, ho, -⟩ := S
  have hPc := hp.2
  intro T hT X
  rcases vx_callSN X hx (bytes := bytes) (maxL := maxL) (ret := ret) ho hl hx1 hini hcode hy hK hg (hsize.trans hml.symm) (argsL := As) (rest := rest) (fun sig h => hn.trans (hlen sig h)) hstack hW (by rw [hb]; exact hdg)
    (fun vm₁ hW₁ => ⟨hf.1, hf.2, hPc (T.setVm vm₁) hT hW₁⟩) with ⟨v, vm₁, ⟨U', l2, c2, s2⟩, hW₁, X', ⟨g', mk, t, L, e1, e2, hq, h1, hL, h2, h3⟩, st⟩ | ⟨q, vm₁, ⟨U', l2, c2, s2⟩, hW₁, X', ⟨g', mk, t, L, E, ce, e1, e2, hq, hce, hcv, hcl, h1, hL, h2, h3⟩, st⟩
  · dsimp only [Pt.U, Pt.locs, Pt.cells, Pt.slots] at X' e1 e2 h1 h2 h3 st
    subst h1; subst h2; subst h3
    exact Or.inl ⟨v, (T.setVm vm₁).calling g' mk As.toArray, t, U', L, hT, X', hL, e1, e2, hq, st⟩
  · dsimp only [Pt.U, Pt.locs, Pt.cells, Pt.slots] at X' e1 e2 h1 h2 h3 st hcl
    subst h1; subst h2; subst h3
    exact Or.inr ⟨q, (T.setVm vm₁).calling g' mk As.toArray, t, U', L, E, ce, hT, X', hL, e1, e2, hq, hce, hcv, vx_cls hW₁ hcl, st⟩
end
/-! ===== END ===== -/
/-! ===== BEGIN calls by an interface of methods that may throw (vx_callIF, vx_runF follow va_callIF, va_runF of this kit) ===== -/
section
variable {p : Program} {l : Launch} {e : Env} {R : Room} {s : State} {m : MethodId} {args : Array Value} {below : List Frame} {meth : Method} {c : Code} {H : Heap} {locs : List Loc} {cells slots : Nat} {Q : State → Prop}
variable {mc ms : Nat} {free : Addr → Prop} {A0 A1 : Nat → Prop} {H0 : Heap} {a : Array Value} {pc : Nat} {ls : Array Slot} {st0 rest : List Value}
def vx_Run5 (p : Program) (l : Launch) (e : Env) (R : Room) (s : State) (m : MethodId) (args : Array Value) (below : List Frame) (meth : Method) (c : Code) (H : Heap) (locs : List Loc) (cells slots mc ms : Nat) (g : JFrame) (rest : List Value) (Qa : State → Outcome → State → Prop) (XC : String → State → State → Prop) (free : Addr → Prop) : Prop :=
  ∀ T : State, T.heap = H → Stand p l e R s m args below meth c T locs cells slots →
    (∃ (v : Option Value) (st₀ t T' : State) (L : List Loc), st₀.heap = H ∧ Stand p l e R s m args below meth c T' (locs ++ L) (cells + mc) (slots + ms) ∧ (∀ q ∈ L, free q.base) ∧ T'.heap = t.heap ∧ T'.vm = t.vm ∧ Qa st₀ (.returned v) t ∧
      Goes p e below T g T' { g with pc := g.pc + 5, stack := v.toList ++ rest }) ∨
    (∃ (q : Addr) (st₀ t T' : State) (L : List Loc) (E : String) (ce : Cell), st₀.heap = H ∧ Stand p l e R s m args below meth c T' (locs ++ L) (cells + mc) (slots + ms) ∧ (∀ z ∈ L, free z.base) ∧ T'.heap = t.heap ∧ T'.vm = t.vm ∧ XC E st₀ t ∧ t.heap[q]? = some ce ∧ ce.vm = .none ∧ s.vm.findClass E = some ce.cls ∧
      Steps p.tables e below (T.setTop g) ((T'.setTop { g with stack := rest }).pushFrame (.throwing q)))
theorem vx_callIF {T : State} (X : Stand p l e R s m args below meth c T locs cells slots) (hexec : p.tables.exec = Jvm.exec) {own C : String} {index count : Nat} {x y : MethodName} {bytes : ByteArray} {maxL : Nat} {ret : Option FieldType}
    (hown : s.vm.findClass own = some m.cls) (hlink : (Cond.methodLink own index x).before args s = true) (hdecl : (Cond.declares x).before args s = true) (hface : (Cond.interfaceMethod x.cls x.cls x.name x.desc).before args s = true)
    (hsel : (Cond.selects C x y).before args s = true) (hinst : (Cond.instanceMethod y).before args s = true) (hpub : (Cond.publicMethod y).before args s = true) (hunh : (Cond.unhidden C x.name x.desc).before args s = true)
    (hcast : (Cond.castable C x.cls).before args s = true) (hcode : (Cond.code y bytes maxL ret).before args s = true) (hx : x.cls ≠ "java/lang/invoke/MethodHandle" ∧ x.cls ≠ "java/lang/invoke/VarHandle")
    {W9 : Nat} {Pre : Pt → Array Value → Prop} {Post : Pt → Array Value → Option Value → Pt → Prop} {PostX : Pt → Array Value → Addr → Pt → Prop} (hK : vx_Back l R p e below s args y 5 W9 Pre Post PostX)
    {b : Addr} {cellB : Cell} {kB : Class} (hcell : T.heap[b]? = some cellB) (hobj : cellB.vm.isStatics = false) (hcls : s.vm.findClass C = some cellB.cls) (hkB : s.vm.classes[cellB.cls]? = some kB)
    {g : JFrame} (hg : g.method = m) (hsize : g.locals.size = c.maxLocals) {argsL rest : List Value} (hlen : ∀ sig, parseMethodDescriptor x.desc = some sig → argsL.length = sig.parameters.length)
    (hstack : g.stack = argsL.reverse ++ .ref b :: rest) (hW : 2 * g.monitorRoom + (rest.map fun v => v.category).sum ≤ W9) (hdg : decode c.code g.pc = .ok (.invokeinterface index count, 5))
    (hpre : ∀ vm₁, s.WarmedH vm₁ → Pre ⟨T.setVm vm₁, locs, cells, slots⟩ (Value.ref b :: argsL).toArray) :
    (∃ (v : Option Value) (vm₁ : Vm) (B : Pt), s.WarmedH vm₁ ∧ Stand p l e R s m args below meth c B.U B.locs B.cells B.slots ∧ Post ⟨T.setVm vm₁, locs, cells, slots⟩ (Value.ref b :: argsL).toArray v B ∧
      ∀ target, Steps p.tables e below (B.U.setTop { g with pc := g.pc + 5, stack := v.toList ++ rest }) target → Steps p.tables e below (T.setTop g) target) ∨
    (∃ (q : Addr) (vm₁ : Vm) (B : Pt), s.WarmedH vm₁ ∧ Stand p l e R s m args below meth c B.U B.locs B.cells B.slots ∧ PostX ⟨T.setVm vm₁, locs, cells, slots⟩ (Value.ref b :: argsL).toArray q B ∧
      Steps p.tables e below (T.setTop g) ((B.U.setTop { g with stack := rest }).pushFrame (.throwing q))) := by
  obtain ⟨r0, r, hn, hrm, hstR, hsigR⟩ := Cond.declares_spec hdecl
  obtain ⟨cL, kL, r1, hcL, hkL, hiL, hfoundL, hn1⟩ := Cond.interfaceMethod_spec hface
  cases hn.symm.trans hn1
  have hr0cls : r0.cls = cL := Option.some.inj ((findClass_of_methodNamed hn).symm.trans hcL)
  obtain ⟨hnameR, hdescR⟩ := name_of_methodNamed hn hrm
  obtain ⟨mk, methM, hnamed, hmethM, -, habM⟩ := Cond.instanceMethod_spec hinst
  obtain ⟨c2, r2, m2, q1, q2, q3, q4, -⟩ := Cond.selects_spec hsel
  cases hcls.symm.trans q1
  cases hfoundL.symm.trans q2
  cases hnamed.symm.trans q3
  have hselP : selectMethod e.platform s.vm cellB.cls r0 = .method mk := by rw [Launch.admits_selectMethod X.admits]; exact q4
  have hpubM : hasFlag methM.accessFlags Acc.public_ = true := Cond.publicMethod_spec hnamed hmethM hpub
  have hway : ((cellB.cls :: s.vm.superclasses cellB.cls).any fun k => (declaredIn s.vm r.name r.desc k).any fun (_, z) => z.isPrivate || z.isStatic) = false := by
    rw [hnameR, hdescR]; exact Cond.unhidden_spec hcls hunh
  obtain ⟨c3, t3, w1, w2, w3⟩ := Cond.castable_spec hcast
  cases hcls.symm.trans w1
  cases hcL.symm.trans w2
  obtain ⟨vm₁, X₁, hstep₁⟩ := X.invokeinterface hexec hown hlink hn hrm hstR (by rw [hr0cls]; exact hkL) hiL hx (a := b) (cell := cellB) (kcell := kB) hcell
    (fun z h => by rw [h] at hobj; cases hobj) hkB (by rw [hr0cls]; exact w3) hselP hmethM hway hpubM habM (g := g) hg (argsL := argsL) (rest := rest) (hlen _ hsigR) hstack hdg
  rcases hK m meth c ⟨T.setVm vm₁, locs, cells, slots⟩ { g with stack := rest } (.invokeinterface index count) mk (Value.ref b :: argsL).toArray X₁ hg hsize hdg hW (X₁.named hnamed) (hpre vm₁ X₁.warmed) with ⟨v, B, X', hpost, hsteps⟩ | ⟨q, B, X', hpost, hsteps⟩
  · exact Or.inl ⟨v, vm₁, B, X₁.warmed, X', hpost, fun target h => hstep₁ _ fun acts => by rw [doInvoke_state]; exact hsteps.trans h⟩
  · exact Or.inr ⟨q, vm₁, B, X₁.warmed, X', hpost, hstep₁ _ fun acts => by rw [doInvoke_state]; exact hsteps⟩
theorem vx_runF {x y : MethodName} {bytes cc : ByteArray} {maxL nL mc ms n index count : Nat} {ret : Option FieldType} {ws : List Cond} {rm : Room} {Pc : Array Value → State → Prop} {Qc : Array Value → State → Outcome → State → Prop} {XC : String → State → State → Prop} {free : Addr → Prop} {Ts : List Cond} {own C : String} {cC : ClassId} {b : Addr} {As rest : List Value} {g : JFrame}
    (hat : ClassAt s C cC) (S : CallFix p m c cc nL s args Ts own) (hM : vx_Met l y ws rm Pc Qc XC mc ms free) (cw : va_CI R s args own C index x y bytes maxL ret ws rm mc ms n) (hp : PreV s H C b Pc As)
    (hg : g.method = m) (hn : As.length = n) (hsize : g.locals.size = nL) (hstack : g.stack = As.reverse ++ .ref b :: rest) (hW : 2 * g.monitorRoom + (rest.map fun v => v.category).sum ≤ 8) (hdg : decode cc g.pc = .ok (.invokeinterface index count, 5)) (hf : cells + mc ≤ R.cells ∧ slots + ms ≤ R.slots) :
    vx_Run5 p l e R s m args below meth c H locs cells slots mc ms g rest (Qc (Value.ref b :: As).toArray) XC free := by
  obtain ⟨hrc, hrs, hfr, hlo, hws, hcw⟩ := cw.back
  have hini := cw.init
  have hK : vx_Back l R p e below s args y 5 8 (PreOf R mc ms Pc) (PostOf Qc mc ms free) (vx_Post XC mc ms free) := vx_back (bytes := bytes) (maxL := maxL) (ret := ret) hM hp.1 hrc hrs hfr hlo hws hcw (fun a' U hW => word_at hW (Or.inl (by first | rfl | simp [Cond.onTables, Cond.keeps, Cond.steady])) hini)
  obtain ⟨hx, hb, hml, ho, -⟩ := S
  obtain ⟨-, ⟨cellB, hcB, hoB, hclB⟩, hPc⟩ := hp
  obtain ⟨hfc, kB, hkB, -⟩ := hat
  cases hfc.symm.trans hclB
  intro T hT X
  rcases vx_callIF X hx (C := C) (bytes := bytes) (maxL := maxL) (ret := ret) ho cw.link cw.decl cw.face cw.sel cw.inst cw.pub cw.unh cw.cast cw.code cw.notMH hK (by rw [hT]; exact hcB) hoB hclB hkB hg (hsize.trans hml.symm) (argsL := As) (rest := rest) (fun sig h => hn.trans (cw.len sig h)) hstack hW (by rw [hb]; exact hdg)
    (fun vm₁ hW₁ => ⟨hf.1, hf.2, hPc (T.setVm vm₁) hT hW₁⟩) with ⟨v, vm₁, ⟨U', l2, c2, s2⟩, hW₁, X', ⟨g', mk, t, L, e1, e2, hq, h1, hL, h2, h3⟩, st⟩ | ⟨q, vm₁, ⟨U', l2, c2, s2⟩, hW₁, X', ⟨g', mk, t, L, E, ce, e1, e2, hq, hce, hcv, hcl, h1, hL, h2, h3⟩, st⟩
  · dsimp only [Pt.U, Pt.locs, Pt.cells, Pt.slots] at X' e1 e2 h1 h2 h3 st
    subst h1; subst h2; subst h3
    exact Or.inl ⟨v, (T.setVm vm₁).calling g' mk (Value.ref b :: As).toArray, t, U', L, hT, X', hL, e1, e2, hq, st⟩
  · dsimp only [Pt.U, Pt.locs, Pt.cells, Pt.slots] at X' e1 e2 h1 h2 h3 st hcl
    subst h1; subst h2; subst h3
    exact Or.inr ⟨q, (T.setVm vm₁).calling g' mk (Value.ref b :: As).toArray, t, U', L, E, ce, hT, X', hL, e1, e2, hq, hce, hcv, vx_cls hW₁ hcl, st⟩
theorem vx_callFv {S SX : Type} {post : S → Prop} {px : SX → Prop} {B : S → State → Prop} {BX : String → SX → State → Prop} {AX : Nat → Prop} (hr : vx_Run5 p l e R s m args below meth c H locs cells slots mc ms (F0 m pc ls st0) rest (va_Qv post B A1 a) (vx_X px BX AX) free) (hS : va_S A0 H0 H locs) (hA : ∀ q, q < H.size → A1 q → A0 q) (hf : ∀ q, free q → A0 q) (hAX : ∀ q, q < H.size → AX q → A0 q)
    (kx : ∀ (E : String) (ce : Cell) (q9 : Addr) (u : SX) (t : State) (H1 : Heap) (locs1 : List Loc), t.heap = H1 → s.vm.Alike t.vm → px u → BX E u t → H.size ≤ H1.size → (∀ q : Nat, q < H.size → ¬ AX q → H1[q]? = H[q]?) → va_S A0 H0 H1 locs1 → H1[q9]? = some ce → ce.vm = .none → s.vm.findClass E = some ce.cls → vx_W p l e R s m args below meth c H1 locs1 (cells + mc) (slots + ms) Q (F0 m pc ls rest) q9)
    (kk : ∀ (u : S) (t : State) (H1 : Heap) (locs1 : List Loc), t.heap = H1 → s.vm.Alike t.vm → post u → B u t → H.size ≤ H1.size → (∀ q : Nat, q < H.size → ¬ A1 q → H1[q]? = H[q]?) → va_S A0 H0 H1 locs1 → W p l e R s m args below meth c H1 locs1 (cells + mc) (slots + ms) Q (F0 m (pc + 5) ls (rest))) : W p l e R s m args below meth c H locs cells slots Q (F0 m pc ls st0) := by
  intro T hT X
  rcases hr T hT X with ⟨v, st₀, t, T', L, h0, X', hL, e1, e2, ⟨⟨u, hv, hp, hb⟩, hF⟩, st⟩ | ⟨q, st₀, t, T', L, E, ce, h0, X', hL, e1, e2, ⟨u, hp, hb, hF⟩, hce, hcv, hcl, st⟩
  · cases hv
    obtain ⟨k1, k2, k3⟩ := vx_keep h0 e1 hS hA hf hL hF
    obtain ⟨t2, a1, b1⟩ := kk u t T'.heap (locs ++ L) e1.symm (by rw [← e2]; exact X'.warmed.alike) hp hb k1 k2 k3 T' rfl X'
    exact ⟨t2, st t2 a1, b1⟩
  · obtain ⟨k1, k2, k3⟩ := vx_keep h0 e1 hS hAX hf hL hF
    obtain ⟨t2, a1, b1⟩ := kx E ce q u t T'.heap (locs ++ L) e1.symm (by rw [← e2]; exact X'.warmed.alike) hp hb k1 k2 k3 (by rw [e1]; exact hce) hcv hcl T' rfl X'
    exact ⟨t2, st.trans a1, b1⟩
theorem vx_callFi {S SX : Type} {post : Int32 → S → Prop} {px : SX → Prop} {B : S → State → Prop} {BX : String → SX → State → Prop} {AX : Nat → Prop} (hr : vx_Run5 p l e R s m args below meth c H locs cells slots mc ms (F0 m pc ls st0) rest (va_Qi post B A1 a) (vx_X px BX AX) free) (hS : va_S A0 H0 H locs) (hA : ∀ q, q < H.size → A1 q → A0 q) (hf : ∀ q, free q → A0 q) (hAX : ∀ q, q < H.size → AX q → A0 q)
    (kx : ∀ (E : String) (ce : Cell) (q9 : Addr) (u : SX) (t : State) (H1 : Heap) (locs1 : List Loc), t.heap = H1 → s.vm.Alike t.vm → px u → BX E u t → H.size ≤ H1.size → (∀ q : Nat, q < H.size → ¬ AX q → H1[q]? = H[q]?) → va_S A0 H0 H1 locs1 → H1[q9]? = some ce → ce.vm = .none → s.vm.findClass E = some ce.cls → vx_W p l e R s m args below meth c H1 locs1 (cells + mc) (slots + ms) Q (F0 m pc ls rest) q9)
    (kk : ∀ (r : Int32) (u : S) (t : State) (H1 : Heap) (locs1 : List Loc), t.heap = H1 → s.vm.Alike t.vm → post r u → B u t → H.size ≤ H1.size → (∀ q : Nat, q < H.size → ¬ A1 q → H1[q]? = H[q]?) → va_S A0 H0 H1 locs1 → W p l e R s m args below meth c H1 locs1 (cells + mc) (slots + ms) Q (F0 m (pc + 5) ls (.int r :: rest))) : W p l e R s m args below meth c H locs cells slots Q (F0 m pc ls st0) := by
  intro T hT X
  rcases hr T hT X with ⟨v, st₀, t, T', L, h0, X', hL, e1, e2, ⟨⟨r, u, hv, hp, hb⟩, hF⟩, st⟩ | ⟨q, st₀, t, T', L, E, ce, h0, X', hL, e1, e2, ⟨u, hp, hb, hF⟩, hce, hcv, hcl, st⟩
  · cases hv
    obtain ⟨k1, k2, k3⟩ := vx_keep h0 e1 hS hA hf hL hF
    obtain ⟨t2, a1, b1⟩ := kk r u t T'.heap (locs ++ L) e1.symm (by rw [← e2]; exact X'.warmed.alike) hp hb k1 k2 k3 T' rfl X'
    exact ⟨t2, st t2 a1, b1⟩
  · obtain ⟨k1, k2, k3⟩ := vx_keep h0 e1 hS hAX hf hL hF
    obtain ⟨t2, a1, b1⟩ := kx E ce q u t T'.heap (locs ++ L) e1.symm (by rw [← e2]; exact X'.warmed.alike) hp hb k1 k2 k3 (by rw [e1]; exact hce) hcv hcl T' rfl X'
    exact ⟨t2, st.trans a1, b1⟩
theorem vx_callFl {S SX : Type} {post : Int64 → S → Prop} {px : SX → Prop} {B : S → State → Prop} {BX : String → SX → State → Prop} {AX : Nat → Prop} (hr : vx_Run5 p l e R s m args below meth c H locs cells slots mc ms (F0 m pc ls st0) rest (va_Ql post B A1 a) (vx_X px BX AX) free) (hS : va_S A0 H0 H locs) (hA : ∀ q, q < H.size → A1 q → A0 q) (hf : ∀ q, free q → A0 q) (hAX : ∀ q, q < H.size → AX q → A0 q)
    (kx : ∀ (E : String) (ce : Cell) (q9 : Addr) (u : SX) (t : State) (H1 : Heap) (locs1 : List Loc), t.heap = H1 → s.vm.Alike t.vm → px u → BX E u t → H.size ≤ H1.size → (∀ q : Nat, q < H.size → ¬ AX q → H1[q]? = H[q]?) → va_S A0 H0 H1 locs1 → H1[q9]? = some ce → ce.vm = .none → s.vm.findClass E = some ce.cls → vx_W p l e R s m args below meth c H1 locs1 (cells + mc) (slots + ms) Q (F0 m pc ls rest) q9)
    (kk : ∀ (r : Int64) (u : S) (t : State) (H1 : Heap) (locs1 : List Loc), t.heap = H1 → s.vm.Alike t.vm → post r u → B u t → H.size ≤ H1.size → (∀ q : Nat, q < H.size → ¬ A1 q → H1[q]? = H[q]?) → va_S A0 H0 H1 locs1 → W p l e R s m args below meth c H1 locs1 (cells + mc) (slots + ms) Q (F0 m (pc + 5) ls (.long r :: rest))) : W p l e R s m args below meth c H locs cells slots Q (F0 m pc ls st0) := by
  intro T hT X
  rcases hr T hT X with ⟨v, st₀, t, T', L, h0, X', hL, e1, e2, ⟨⟨r, u, hv, hp, hb⟩, hF⟩, st⟩ | ⟨q, st₀, t, T', L, E, ce, h0, X', hL, e1, e2, ⟨u, hp, hb, hF⟩, hce, hcv, hcl, st⟩
  · cases hv
    obtain ⟨k1, k2, k3⟩ := vx_keep h0 e1 hS hA hf hL hF
    obtain ⟨t2, a1, b1⟩ := kk r u t T'.heap (locs ++ L) e1.symm (by rw [← e2]; exact X'.warmed.alike) hp hb k1 k2 k3 T' rfl X'
    exact ⟨t2, st t2 a1, b1⟩
  · obtain ⟨k1, k2, k3⟩ := vx_keep h0 e1 hS hAX hf hL hF
    obtain ⟨t2, a1, b1⟩ := kx E ce q u t T'.heap (locs ++ L) e1.symm (by rw [← e2]; exact X'.warmed.alike) hp hb k1 k2 k3 (by rw [e1]; exact hce) hcv hcl T' rfl X'
    exact ⟨t2, st.trans a1, b1⟩
theorem vx_callFf {S SX : Type} {post : UInt32 → S → Prop} {px : SX → Prop} {B : S → State → Prop} {BX : String → SX → State → Prop} {AX : Nat → Prop} (hr : vx_Run5 p l e R s m args below meth c H locs cells slots mc ms (F0 m pc ls st0) rest (va_Qf post B A1 a) (vx_X px BX AX) free) (hS : va_S A0 H0 H locs) (hA : ∀ q, q < H.size → A1 q → A0 q) (hf : ∀ q, free q → A0 q) (hAX : ∀ q, q < H.size → AX q → A0 q)
    (kx : ∀ (E : String) (ce : Cell) (q9 : Addr) (u : SX) (t : State) (H1 : Heap) (locs1 : List Loc), t.heap = H1 → s.vm.Alike t.vm → px u → BX E u t → H.size ≤ H1.size → (∀ q : Nat, q < H.size → ¬ AX q → H1[q]? = H[q]?) → va_S A0 H0 H1 locs1 → H1[q9]? = some ce → ce.vm = .none → s.vm.findClass E = some ce.cls → vx_W p l e R s m args below meth c H1 locs1 (cells + mc) (slots + ms) Q (F0 m pc ls rest) q9)
    (kk : ∀ (r : UInt32) (u : S) (t : State) (H1 : Heap) (locs1 : List Loc), t.heap = H1 → s.vm.Alike t.vm → post r u → B u t → H.size ≤ H1.size → (∀ q : Nat, q < H.size → ¬ A1 q → H1[q]? = H[q]?) → va_S A0 H0 H1 locs1 → W p l e R s m args below meth c H1 locs1 (cells + mc) (slots + ms) Q (F0 m (pc + 5) ls (.float r :: rest))) : W p l e R s m args below meth c H locs cells slots Q (F0 m pc ls st0) := by
  intro T hT X
  rcases hr T hT X with ⟨v, st₀, t, T', L, h0, X', hL, e1, e2, ⟨⟨r, u, hv, hp, hb⟩, hF⟩, st⟩ | ⟨q, st₀, t, T', L, E, ce, h0, X', hL, e1, e2, ⟨u, hp, hb, hF⟩, hce, hcv, hcl, st⟩
  · cases hv
    obtain ⟨k1, k2, k3⟩ := vx_keep h0 e1 hS hA hf hL hF
    obtain ⟨t2, a1, b1⟩ := kk r u t T'.heap (locs ++ L) e1.symm (by rw [← e2]; exact X'.warmed.alike) hp hb k1 k2 k3 T' rfl X'
    exact ⟨t2, st t2 a1, b1⟩
  · obtain ⟨k1, k2, k3⟩ := vx_keep h0 e1 hS hAX hf hL hF
    obtain ⟨t2, a1, b1⟩ := kx E ce q u t T'.heap (locs ++ L) e1.symm (by rw [← e2]; exact X'.warmed.alike) hp hb k1 k2 k3 (by rw [e1]; exact hce) hcv hcl T' rfl X'
    exact ⟨t2, st.trans a1, b1⟩
theorem vx_callFd {S SX : Type} {post : UInt64 → S → Prop} {px : SX → Prop} {B : S → State → Prop} {BX : String → SX → State → Prop} {AX : Nat → Prop} (hr : vx_Run5 p l e R s m args below meth c H locs cells slots mc ms (F0 m pc ls st0) rest (va_Qd post B A1 a) (vx_X px BX AX) free) (hS : va_S A0 H0 H locs) (hA : ∀ q, q < H.size → A1 q → A0 q) (hf : ∀ q, free q → A0 q) (hAX : ∀ q, q < H.size → AX q → A0 q)
    (kx : ∀ (E : String) (ce : Cell) (q9 : Addr) (u : SX) (t : State) (H1 : Heap) (locs1 : List Loc), t.heap = H1 → s.vm.Alike t.vm → px u → BX E u t → H.size ≤ H1.size → (∀ q : Nat, q < H.size → ¬ AX q → H1[q]? = H[q]?) → va_S A0 H0 H1 locs1 → H1[q9]? = some ce → ce.vm = .none → s.vm.findClass E = some ce.cls → vx_W p l e R s m args below meth c H1 locs1 (cells + mc) (slots + ms) Q (F0 m pc ls rest) q9)
    (kk : ∀ (r : UInt64) (u : S) (t : State) (H1 : Heap) (locs1 : List Loc), t.heap = H1 → s.vm.Alike t.vm → post r u → B u t → H.size ≤ H1.size → (∀ q : Nat, q < H.size → ¬ A1 q → H1[q]? = H[q]?) → va_S A0 H0 H1 locs1 → W p l e R s m args below meth c H1 locs1 (cells + mc) (slots + ms) Q (F0 m (pc + 5) ls (.double r :: rest))) : W p l e R s m args below meth c H locs cells slots Q (F0 m pc ls st0) := by
  intro T hT X
  rcases hr T hT X with ⟨v, st₀, t, T', L, h0, X', hL, e1, e2, ⟨⟨r, u, hv, hp, hb⟩, hF⟩, st⟩ | ⟨q, st₀, t, T', L, E, ce, h0, X', hL, e1, e2, ⟨u, hp, hb, hF⟩, hce, hcv, hcl, st⟩
  · cases hv
    obtain ⟨k1, k2, k3⟩ := vx_keep h0 e1 hS hA hf hL hF
    obtain ⟨t2, a1, b1⟩ := kk r u t T'.heap (locs ++ L) e1.symm (by rw [← e2]; exact X'.warmed.alike) hp hb k1 k2 k3 T' rfl X'
    exact ⟨t2, st t2 a1, b1⟩
  · obtain ⟨k1, k2, k3⟩ := vx_keep h0 e1 hS hAX hf hL hF
    obtain ⟨t2, a1, b1⟩ := kx E ce q u t T'.heap (locs ++ L) e1.symm (by rw [← e2]; exact X'.warmed.alike) hp hb k1 k2 k3 (by rw [e1]; exact hce) hcv hcl T' rfl X'
    exact ⟨t2, st.trans a1, b1⟩
end
/-! ===== END ===== -/
/-! ===== BEGIN by an interface, a method with a table of its own that may throw (follows va_callIFW, va_runFW) ===== -/
section
variable {p : Program} {l : Launch} {e : Env} {R : Room} {s : State} {m : MethodId} {args : Array Value} {below : List Frame} {meth : Method} {c : Code} {H : Heap} {locs : List Loc} {cells slots : Nat}
theorem vx_callIFW {T : State} (X : Stand p l e R s m args below meth c T locs cells slots) (hexec : p.tables.exec = Jvm.exec) {own C : String} {index count : Nat} {x y : MethodName} {bytes : ByteArray} {maxL : Nat} {ret : Option FieldType} {hh : List (Nat × Nat × Nat × Nat)}
    (hown : s.vm.findClass own = some m.cls) (hlink : (Cond.methodLink own index x).before args s = true) (hdecl : (Cond.declares x).before args s = true) (hface : (Cond.interfaceMethod x.cls x.cls x.name x.desc).before args s = true)
    (hsel : (Cond.selects C x y).before args s = true) (hinst : (Cond.instanceMethod y).before args s = true) (hpub : (Cond.publicMethod y).before args s = true) (hunh : (Cond.unhidden C x.name x.desc).before args s = true)
    (hcast : (Cond.castable C x.cls).before args s = true) (hcode : (Cond.codeWith y bytes maxL ret hh).before args s = true) (hx : x.cls ≠ "java/lang/invoke/MethodHandle" ∧ x.cls ≠ "java/lang/invoke/VarHandle")
    {W : Nat} {Pre : Pt → Array Value → Prop} {Post : Pt → Array Value → Option Value → Pt → Prop} {PostX : Pt → Array Value → Addr → Pt → Prop} (hK : vx_Back l R p e below s args y 5 W Pre Post PostX)
    {b : Addr} {cellB : Cell} {kB : Class} (hcell : T.heap[b]? = some cellB) (hobj : cellB.vm.isStatics = false) (hcls : s.vm.findClass C = some cellB.cls) (hkB : s.vm.classes[cellB.cls]? = some kB)
    {g : JFrame} (hg : g.method = m) (hsize : g.locals.size = c.maxLocals) {argsL rest : List Value} (hlen : ∀ sig, parseMethodDescriptor x.desc = some sig → argsL.length = sig.parameters.length)
    (hstack : g.stack = argsL.reverse ++ .ref b :: rest) (hW : 2 * g.monitorRoom + (rest.map fun v => v.category).sum ≤ W) (hdg : decode c.code g.pc = .ok (.invokeinterface index count, 5))
    (hpre : ∀ vm₁, s.WarmedH vm₁ → Pre ⟨T.setVm vm₁, locs, cells, slots⟩ (Value.ref b :: argsL).toArray) :
    (∃ (v : Option Value) (vm₁ : Vm) (B : Pt), s.WarmedH vm₁ ∧ Stand p l e R s m args below meth c B.U B.locs B.cells B.slots ∧ Post ⟨T.setVm vm₁, locs, cells, slots⟩ (Value.ref b :: argsL).toArray v B ∧
      ∀ target, Steps p.tables e below (B.U.setTop { g with pc := g.pc + 5, stack := v.toList ++ rest }) target → Steps p.tables e below (T.setTop g) target) ∨
    (∃ (q : Addr) (vm₁ : Vm) (B : Pt), s.WarmedH vm₁ ∧ Stand p l e R s m args below meth c B.U B.locs B.cells B.slots ∧ PostX ⟨T.setVm vm₁, locs, cells, slots⟩ (Value.ref b :: argsL).toArray q B ∧
      Steps p.tables e below (T.setTop g) ((B.U.setTop { g with stack := rest }).pushFrame (.throwing q))) := by
  obtain ⟨r0, r, hn, hrm, hstR, hsigR⟩ := Cond.declares_spec hdecl
  obtain ⟨cL, kL, r1, hcL, hkL, hiL, hfoundL, hn1⟩ := Cond.interfaceMethod_spec hface
  cases hn.symm.trans hn1
  have hr0cls : r0.cls = cL := Option.some.inj ((findClass_of_methodNamed hn).symm.trans hcL)
  obtain ⟨hnameR, hdescR⟩ := name_of_methodNamed hn hrm
  obtain ⟨mk, methM, hnamed, hmethM, -, habM⟩ := Cond.instanceMethod_spec hinst
  obtain ⟨c2, r2, m2, q1, q2, q3, q4, -⟩ := Cond.selects_spec hsel
  cases hcls.symm.trans q1
  cases hfoundL.symm.trans q2
  cases hnamed.symm.trans q3
  have hselP : selectMethod e.platform s.vm cellB.cls r0 = .method mk := by rw [Launch.admits_selectMethod X.admits]; exact q4
  have hpubM : hasFlag methM.accessFlags Acc.public_ = true := Cond.publicMethod_spec hnamed hmethM hpub
  have hway : ((cellB.cls :: s.vm.superclasses cellB.cls).any fun k => (declaredIn s.vm r.name r.desc k).any fun (_, z) => z.isPrivate || z.isStatic) = false := by
    rw [hnameR, hdescR]; exact Cond.unhidden_spec hcls hunh
  obtain ⟨c3, t3, w1, w2, w3⟩ := Cond.castable_spec hcast
  cases hcls.symm.trans w1
  cases hcL.symm.trans w2
  obtain ⟨vm₁, X₁, hstep₁⟩ := X.invokeinterface hexec hown hlink hn hrm hstR (by rw [hr0cls]; exact hkL) hiL hx (a := b) (cell := cellB) (kcell := kB) hcell
    (fun z h => by rw [h] at hobj; cases hobj) hkB (by rw [hr0cls]; exact w3) hselP hmethM hway hpubM habM (g := g) hg (argsL := argsL) (rest := rest) (hlen _ hsigR) hstack hdg
  rcases hK m meth c ⟨T.setVm vm₁, locs, cells, slots⟩ { g with stack := rest } (.invokeinterface index count) mk (Value.ref b :: argsL).toArray X₁ hg hsize hdg hW (X₁.named hnamed) (hpre vm₁ X₁.warmed) with ⟨v, B, X', hpost, hsteps⟩ | ⟨q, B, X', hpost, hsteps⟩
  · exact Or.inl ⟨v, vm₁, B, X₁.warmed, X', hpost, fun target h => hstep₁ _ fun acts => by rw [doInvoke_state]; exact hsteps.trans h⟩
  · exact Or.inr ⟨q, vm₁, B, X₁.warmed, X', hpost, hstep₁ _ fun acts => by rw [doInvoke_state]; exact hsteps⟩
theorem vx_runFW {x y : MethodName} {bytes cc : ByteArray} {maxL nL mc ms n index count : Nat} {ret : Option FieldType} {hh : List (Nat × Nat × Nat × Nat)} {ws : List Cond} {rm : Room} {Pc : Array Value → State → Prop} {Qc : Array Value → State → Outcome → State → Prop} {XC : String → State → State → Prop} {free : Addr → Prop} {Ts : List Cond} {own C : String} {cC : ClassId} {b : Addr} {As rest : List Value} {g : JFrame}
    (hat : ClassAt s C cC) (S : CallFix p m c cc nL s args Ts own) (hM : vx_Met l y ws rm Pc Qc XC mc ms free) (cw : va_CIW R s args own C index x y bytes maxL ret hh ws rm mc ms n) (hp : PreV s H C b Pc As)
    (hg : g.method = m) (hn : As.length = n) (hsize : g.locals.size = nL) (hstack : g.stack = As.reverse ++ .ref b :: rest) (hW : 2 * g.monitorRoom + (rest.map fun v => v.category).sum ≤ 8) (hdg : decode cc g.pc = .ok (.invokeinterface index count, 5)) (hf : cells + mc ≤ R.cells ∧ slots + ms ≤ R.slots) :
    vx_Run5 p l e R s m args below meth c H locs cells slots mc ms g rest (Qc (Value.ref b :: As).toArray) XC free := by
  obtain ⟨hrc, hrs, hfr, hlo, hws, hcw⟩ := cw.back
  have hini := cw.init
  have hK : vx_Back l R p e below s args y 5 8 (PreOf R mc ms Pc) (PostOf Qc mc ms free) (vx_Post XC mc ms free) := vx_backW (hh := hh) (bytes := bytes) (maxL := maxL) (ret := ret) hM hp.1 hrc hrs hfr hlo hws hcw (fun a' U hW => word_at hW (Or.inl (by first | rfl | simp [Cond.onTables, Cond.keeps, Cond.steady])) hini)
  obtain ⟨hx, hb, hml, ho, -⟩ := S
  obtain ⟨-, ⟨cellB, hcB, hoB, hclB⟩, hPc⟩ := hp
  obtain ⟨hfc, kB, hkB, -⟩ := hat
  cases hfc.symm.trans hclB
  intro T hT X
  rcases vx_callIFW X hx (C := C) (hh := hh) (bytes := bytes) (maxL := maxL) (ret := ret) ho cw.link cw.decl cw.face cw.sel cw.inst cw.pub cw.unh cw.cast cw.code cw.notMH hK (by rw [hT]; exact hcB) hoB hclB hkB hg (hsize.trans hml.symm) (argsL := As) (rest := rest) (fun sig h => hn.trans (cw.len sig h)) hstack hW (by rw [hb]; exact hdg)
    (fun vm₁ hW₁ => ⟨hf.1, hf.2, hPc (T.setVm vm₁) hT hW₁⟩) with ⟨v, vm₁, ⟨U', l2, c2, s2⟩, hW₁, X', ⟨g', mk, t, L, e1, e2, hq, h1, hL, h2, h3⟩, st⟩ | ⟨q, vm₁, ⟨U', l2, c2, s2⟩, hW₁, X', ⟨g', mk, t, L, E, ce, e1, e2, hq, hce, hcv, hcl, h1, hL, h2, h3⟩, st⟩
  · dsimp only [Pt.U, Pt.locs, Pt.cells, Pt.slots] at X' e1 e2 h1 h2 h3 st
    subst h1; subst h2; subst h3
    exact Or.inl ⟨v, (T.setVm vm₁).calling g' mk (Value.ref b :: As).toArray, t, U', L, hT, X', hL, e1, e2, hq, st⟩
  · dsimp only [Pt.U, Pt.locs, Pt.cells, Pt.slots] at X' e1 e2 h1 h2 h3 st hcl
    subst h1; subst h2; subst h3
    exact Or.inr ⟨q, (T.setVm vm₁).calling g' mk (Value.ref b :: As).toArray, t, U', L, E, ce, hT, X', hL, e1, e2, hq, hce, hcv, vx_cls hW₁ hcl, st⟩
end
/-! ===== END ===== -/
/-! ===== BEGIN .. of methods that hand back an object of the pool ===== -/
section
variable {p : Program} {l : Launch} {e : Env} {R : Room} {s : State} {m : MethodId} {args : Array Value} {below : List Frame} {meth : Method} {c : Code} {H : Heap} {locs : List Loc} {cells slots : Nat} {Q : State → Prop}
variable {mc ms : Nat} {free : Addr → Prop} {A0 A1 : Nat → Prop} {H0 : Heap} {a : Array Value} {pc : Nat} {ls : Array Slot} {st0 rest : List Value}
theorem vx_callq {S SX : Type} {post : Option Nat → S → Prop} {px : SX → Prop} {B : S → State → Prop} {BX : String → SX → State → Prop} {AX : Nat → Prop} (hr : vx_Run p l e R s m args below meth c H locs cells slots mc ms (F0 m pc ls st0) rest (va_Qq post B A1 a) (vx_X px BX AX) free) (hS : va_S A0 H0 H locs) (hA : ∀ q, q < H.size → A1 q → A0 q) (hf : ∀ q, free q → A0 q) (hAX : ∀ q, q < H.size → AX q → A0 q)
    (kx : ∀ (E : String) (ce : Cell) (q9 : Addr) (u : SX) (t : State) (H1 : Heap) (locs1 : List Loc), t.heap = H1 → s.vm.Alike t.vm → px u → BX E u t → H.size ≤ H1.size → (∀ q : Nat, q < H.size → ¬ AX q → H1[q]? = H[q]?) → va_S A0 H0 H1 locs1 → H1[q9]? = some ce → ce.vm = .none → s.vm.findClass E = some ce.cls → vx_W p l e R s m args below meth c H1 locs1 (cells + mc) (slots + ms) Q (F0 m pc ls rest) q9)
    (kk : ∀ (r : Option Nat) (u : S) (t : State) (H1 : Heap) (locs1 : List Loc), t.heap = H1 → s.vm.Alike t.vm → post r u → B u t → H.size ≤ H1.size → (∀ q : Nat, q < H.size → ¬ A1 q → H1[q]? = H[q]?) → va_S A0 H0 H1 locs1 → W p l e R s m args below meth c H1 locs1 (cells + mc) (slots + ms) Q (F0 m (pc + 3) ls (va_rf r :: rest))) : W p l e R s m args below meth c H locs cells slots Q (F0 m pc ls st0) := by
  intro T hT X
  rcases hr T hT X with ⟨v, st₀, t, T', L, h0, X', hL, e1, e2, ⟨⟨r, u, hv, hp, hb⟩, hF⟩, st⟩ | ⟨q, st₀, t, T', L, E, ce, h0, X', hL, e1, e2, ⟨u, hp, hb, hF⟩, hce, hcv, hcl, st⟩
  · cases hv
    obtain ⟨k1, k2, k3⟩ := vx_keep h0 e1 hS hA hf hL hF
    obtain ⟨t2, a1, b1⟩ := kk r u t T'.heap (locs ++ L) e1.symm (by rw [← e2]; exact X'.warmed.alike) hp hb k1 k2 k3 T' rfl X'
    exact ⟨t2, st t2 a1, b1⟩
  · obtain ⟨k1, k2, k3⟩ := vx_keep h0 e1 hS hAX hf hL hF
    obtain ⟨t2, a1, b1⟩ := kx E ce q u t T'.heap (locs ++ L) e1.symm (by rw [← e2]; exact X'.warmed.alike) hp hb k1 k2 k3 (by rw [e1]; exact hce) hcv hcl T' rfl X'
    exact ⟨t2, st.trans a1, b1⟩
end
/-! ===== END ===== -/
/-! ===== BEGIN .. a constant ===== -/
section
variable {p : Program} {l : Launch} {e : Env} {R : Room} {s : State} {m : MethodId} {args : Array Value} {below : List Frame} {meth : Method} {c : Code} {H : Heap} {locs : List Loc} {cells slots : Nat} {Q : State → Prop}
variable {mc ms : Nat} {free : Addr → Prop} {A0 A1 : Nat → Prop} {H0 : Heap} {a : Array Value} {pc : Nat} {ls : Array Slot} {st0 rest : List Value}
theorem vx_calle {ad : Nat → Nat} {S SX : Type} {post : Option Nat → S → Prop} {px : SX → Prop} {B : S → State → Prop} {BX : String → SX → State → Prop} {AX : Nat → Prop} (hr : vx_Run p l e R s m args below meth c H locs cells slots mc ms (F0 m pc ls st0) rest (va_Qe ad post B A1 a) (vx_X px BX AX) free) (hS : va_S A0 H0 H locs) (hA : ∀ q, q < H.size → A1 q → A0 q) (hf : ∀ q, free q → A0 q) (hAX : ∀ q, q < H.size → AX q → A0 q)
    (kx : ∀ (E : String) (ce : Cell) (q9 : Addr) (u : SX) (t : State) (H1 : Heap) (locs1 : List Loc), t.heap = H1 → s.vm.Alike t.vm → px u → BX E u t → H.size ≤ H1.size → (∀ q : Nat, q < H.size → ¬ AX q → H1[q]? = H[q]?) → va_S A0 H0 H1 locs1 → H1[q9]? = some ce → ce.vm = .none → s.vm.findClass E = some ce.cls → vx_W p l e R s m args below meth c H1 locs1 (cells + mc) (slots + ms) Q (F0 m pc ls rest) q9)
    (kk : ∀ (r : Option Nat) (u : S) (t : State) (H1 : Heap) (locs1 : List Loc), t.heap = H1 → s.vm.Alike t.vm → post r u → B u t → H.size ≤ H1.size → (∀ q : Nat, q < H.size → ¬ A1 q → H1[q]? = H[q]?) → va_S A0 H0 H1 locs1 → W p l e R s m args below meth c H1 locs1 (cells + mc) (slots + ms) Q (F0 m (pc + 3) ls (va_re ad r :: rest))) : W p l e R s m args below meth c H locs cells slots Q (F0 m pc ls st0) := by
  intro T hT X
  rcases hr T hT X with ⟨v, st₀, t, T', L, h0, X', hL, e1, e2, ⟨⟨r, u, hv, hp, hb⟩, hF⟩, st⟩ | ⟨q, st₀, t, T', L, E, ce, h0, X', hL, e1, e2, ⟨u, hp, hb, hF⟩, hce, hcv, hcl, st⟩
  · cases hv
    obtain ⟨k1, k2, k3⟩ := vx_keep h0 e1 hS hA hf hL hF
    obtain ⟨t2, a1, b1⟩ := kk r u t T'.heap (locs ++ L) e1.symm (by rw [← e2]; exact X'.warmed.alike) hp hb k1 k2 k3 T' rfl X'
    exact ⟨t2, st t2 a1, b1⟩
  · obtain ⟨k1, k2, k3⟩ := vx_keep h0 e1 hS hAX hf hL hF
    obtain ⟨t2, a1, b1⟩ := kx E ce q u t T'.heap (locs ++ L) e1.symm (by rw [← e2]; exact X'.warmed.alike) hp hb k1 k2 k3 (by rw [e1]; exact hce) hcv hcl T' rfl X'
    exact ⟨t2, st.trans a1, b1⟩
end
/-! ===== END ===== -/
/-! ===== BEGIN .. by an interface, an object ===== -/
section
variable {p : Program} {l : Launch} {e : Env} {R : Room} {s : State} {m : MethodId} {args : Array Value} {below : List Frame} {meth : Method} {c : Code} {H : Heap} {locs : List Loc} {cells slots : Nat} {Q : State → Prop}
variable {mc ms : Nat} {free : Addr → Prop} {A0 A1 : Nat → Prop} {H0 : Heap} {a : Array Value} {pc : Nat} {ls : Array Slot} {st0 rest : List Value}
theorem vx_callFq {S SX : Type} {post : Option Nat → S → Prop} {px : SX → Prop} {B : S → State → Prop} {BX : String → SX → State → Prop} {AX : Nat → Prop} (hr : vx_Run5 p l e R s m args below meth c H locs cells slots mc ms (F0 m pc ls st0) rest (va_Qq post B A1 a) (vx_X px BX AX) free) (hS : va_S A0 H0 H locs) (hA : ∀ q, q < H.size → A1 q → A0 q) (hf : ∀ q, free q → A0 q) (hAX : ∀ q, q < H.size → AX q → A0 q)
    (kx : ∀ (E : String) (ce : Cell) (q9 : Addr) (u : SX) (t : State) (H1 : Heap) (locs1 : List Loc), t.heap = H1 → s.vm.Alike t.vm → px u → BX E u t → H.size ≤ H1.size → (∀ q : Nat, q < H.size → ¬ AX q → H1[q]? = H[q]?) → va_S A0 H0 H1 locs1 → H1[q9]? = some ce → ce.vm = .none → s.vm.findClass E = some ce.cls → vx_W p l e R s m args below meth c H1 locs1 (cells + mc) (slots + ms) Q (F0 m pc ls rest) q9)
    (kk : ∀ (r : Option Nat) (u : S) (t : State) (H1 : Heap) (locs1 : List Loc), t.heap = H1 → s.vm.Alike t.vm → post r u → B u t → H.size ≤ H1.size → (∀ q : Nat, q < H.size → ¬ A1 q → H1[q]? = H[q]?) → va_S A0 H0 H1 locs1 → W p l e R s m args below meth c H1 locs1 (cells + mc) (slots + ms) Q (F0 m (pc + 5) ls (va_rf r :: rest))) : W p l e R s m args below meth c H locs cells slots Q (F0 m pc ls st0) := by
  intro T hT X
  rcases hr T hT X with ⟨v, st₀, t, T', L, h0, X', hL, e1, e2, ⟨⟨r, u, hv, hp, hb⟩, hF⟩, st⟩ | ⟨q, st₀, t, T', L, E, ce, h0, X', hL, e1, e2, ⟨u, hp, hb, hF⟩, hce, hcv, hcl, st⟩
  · cases hv
    obtain ⟨k1, k2, k3⟩ := vx_keep h0 e1 hS hA hf hL hF
    obtain ⟨t2, a1, b1⟩ := kk r u t T'.heap (locs ++ L) e1.symm (by rw [← e2]; exact X'.warmed.alike) hp hb k1 k2 k3 T' rfl X'
    exact ⟨t2, st t2 a1, b1⟩
  · obtain ⟨k1, k2, k3⟩ := vx_keep h0 e1 hS hAX hf hL hF
    obtain ⟨t2, a1, b1⟩ := kx E ce q u t T'.heap (locs ++ L) e1.symm (by rw [← e2]; exact X'.warmed.alike) hp hb k1 k2 k3 (by rw [e1]; exact hce) hcv hcl T' rfl X'
    exact ⟨t2, st.trans a1, b1⟩
end
/-! ===== END ===== -/
/-! ===== BEGIN .. by an interface, a constant ===== -/
section
variable {p : Program} {l : Launch} {e : Env} {R : Room} {s : State} {m : MethodId} {args : Array Value} {below : List Frame} {meth : Method} {c : Code} {H : Heap} {locs : List Loc} {cells slots : Nat} {Q : State → Prop}
variable {mc ms : Nat} {free : Addr → Prop} {A0 A1 : Nat → Prop} {H0 : Heap} {a : Array Value} {pc : Nat} {ls : Array Slot} {st0 rest : List Value}
theorem vx_callFe {ad : Nat → Nat} {S SX : Type} {post : Option Nat → S → Prop} {px : SX → Prop} {B : S → State → Prop} {BX : String → SX → State → Prop} {AX : Nat → Prop} (hr : vx_Run5 p l e R s m args below meth c H locs cells slots mc ms (F0 m pc ls st0) rest (va_Qe ad post B A1 a) (vx_X px BX AX) free) (hS : va_S A0 H0 H locs) (hA : ∀ q, q < H.size → A1 q → A0 q) (hf : ∀ q, free q → A0 q) (hAX : ∀ q, q < H.size → AX q → A0 q)
    (kx : ∀ (E : String) (ce : Cell) (q9 : Addr) (u : SX) (t : State) (H1 : Heap) (locs1 : List Loc), t.heap = H1 → s.vm.Alike t.vm → px u → BX E u t → H.size ≤ H1.size → (∀ q : Nat, q < H.size → ¬ AX q → H1[q]? = H[q]?) → va_S A0 H0 H1 locs1 → H1[q9]? = some ce → ce.vm = .none → s.vm.findClass E = some ce.cls → vx_W p l e R s m args below meth c H1 locs1 (cells + mc) (slots + ms) Q (F0 m pc ls rest) q9)
    (kk : ∀ (r : Option Nat) (u : S) (t : State) (H1 : Heap) (locs1 : List Loc), t.heap = H1 → s.vm.Alike t.vm → post r u → B u t → H.size ≤ H1.size → (∀ q : Nat, q < H.size → ¬ A1 q → H1[q]? = H[q]?) → va_S A0 H0 H1 locs1 → W p l e R s m args below meth c H1 locs1 (cells + mc) (slots + ms) Q (F0 m (pc + 5) ls (va_re ad r :: rest))) : W p l e R s m args below meth c H locs cells slots Q (F0 m pc ls st0) := by
  intro T hT X
  rcases hr T hT X with ⟨v, st₀, t, T', L, h0, X', hL, e1, e2, ⟨⟨r, u, hv, hp, hb⟩, hF⟩, st⟩ | ⟨q, st₀, t, T', L, E, ce, h0, X', hL, e1, e2, ⟨u, hp, hb, hF⟩, hce, hcv, hcl, st⟩
  · cases hv
    obtain ⟨k1, k2, k3⟩ := vx_keep h0 e1 hS hA hf hL hF
    obtain ⟨t2, a1, b1⟩ := kk r u t T'.heap (locs ++ L) e1.symm (by rw [← e2]; exact X'.warmed.alike) hp hb k1 k2 k3 T' rfl X'
    exact ⟨t2, st t2 a1, b1⟩
  · obtain ⟨k1, k2, k3⟩ := vx_keep h0 e1 hS hAX hf hL hF
    obtain ⟨t2, a1, b1⟩ := kx E ce q u t T'.heap (locs ++ L) e1.symm (by rw [← e2]; exact X'.warmed.alike) hp hb k1 k2 k3 (by rw [e1]; exact hce) hcv hcl T' rfl X'
    exact ⟨t2, st.trans a1, b1⟩
end
/-! ===== END ===== -/
/-! ===== BEGIN what the machine throws by itself: null at a field, at athrow ===== -/
section VXM2
variable {p : Program} {l : Launch} {e : Env} {R : Room} {s : State} {m : MethodId} {args : Array Value} {below : List Frame} {meth : Method} {c : Code} {H : Heap} {locs : List Loc} {cells slots : Nat}
variable {Q : State → Prop} {cc : ByteArray} {pc : Nat} {ls : Array Slot} {rest : List Value}
theorem vx_getfN {D cl tys} {own ref C : String} {T : u_T} {N ci index : Nat} {Ts : List Cond} (hexec : p.tables.exec = Jvm.exec) (hb : c.code = cc) (hts : ∀ w ∈ Ts, w.before args s = true) (hin : ∀ w ∈ u_ws C T N, w ∈ Ts) (hown : s.vm.findClass own = some m.cls) (hK : va_K D cl tys s) (hc : cl[ci]? = some (C, T, N)) (k : Nat) (hk : k < N) (hlink : (Cond.fieldLink own index ref (T k).2.1 (T k).2.2.1).before args s = true) (hsame : ∀ x, s.fieldFound? (T k).1 (T k).2.1 (T k).2.2.1 = some x → s.fieldFound? ref (T k).2.1 (T k).2.2.1 = some x) (hdg : decode cc pc = .ok (.getfield index, 3)) (kk : vx_NoteN p l e R s m args below meth c H locs cells slots Q (F0 m pc ls rest)) : W p l e R s m args below meth c H locs cells slots Q (F0 m pc ls (.null :: rest)) := by
  obtain ⟨hS, hfc, kC, hkC, -⟩ := hK.1 ci _ hc
  obtain ⟨cf, kf, fi, f, hi, -⟩ := hS k hk
  intro U hU X
  obtain ⟨vm', X1, st1⟩ := X.getfieldNull hexec hown hlink (hsame _ hi) (u_facts hfc hkC (u_lays hts hin hk) hi).1 (g := F0 m pc ls (.null :: rest)) rfl (rest := rest) rfl (by rw [hb]; exact hdg)
  obtain ⟨t, st, q⟩ := kk (U.setVm vm') hU X1
  exact ⟨t, st1 t st, q⟩
theorem vx_getfNN {D cl tys} {own ref C host : String} {T : u_T} {N ci index : Nat} {Ts : List Cond} (hexec : p.tables.exec = Jvm.exec) (hb : c.code = cc) (hts : ∀ w ∈ Ts, w.before args s = true) (hin : ∀ w ∈ u_ws C T N, w ∈ Ts) (hown : s.vm.findClass own = some m.cls) (hK : va_K D cl tys s) (hc : cl[ci]? = some (C, T, N)) (k : Nat) (hk : k < N) (hlink : (Cond.fieldLinkNest own index ref (T k).2.1 (T k).2.2.1 host).before args s = true) (hsame : ∀ x, s.fieldFound? (T k).1 (T k).2.1 (T k).2.2.1 = some x → s.fieldFound? ref (T k).2.1 (T k).2.2.1 = some x) (hdg : decode cc pc = .ok (.getfield index, 3)) (kk : vx_NoteN p l e R s m args below meth c H locs cells slots Q (F0 m pc ls rest)) : W p l e R s m args below meth c H locs cells slots Q (F0 m pc ls (.null :: rest)) := by
  obtain ⟨hS, hfc, kC, hkC, -⟩ := hK.1 ci _ hc
  obtain ⟨cf, kf, fi, f, hi, -⟩ := hS k hk
  intro U hU X
  obtain ⟨vm', X1, st1⟩ := X.getfieldNullNest hexec hown hlink (hsame _ hi) (u_facts hfc hkC (u_lays hts hin hk) hi).1 (g := F0 m pc ls (.null :: rest)) rfl (rest := rest) rfl (by rw [hb]; exact hdg)
  obtain ⟨t, st, q⟩ := kk (U.setVm vm') hU X1
  exact ⟨t, st1 t st, q⟩
theorem vx_putfN {D cl tys} {own ref C : String} {T : u_T} {N ci index : Nat} {Ts : List Cond} (hexec : p.tables.exec = Jvm.exec) (hb : c.code = cc) (hts : ∀ w ∈ Ts, w.before args s = true) (hin : ∀ w ∈ u_ws C T N, w ∈ Ts) (hown : s.vm.findClass own = some m.cls) (hK : va_K D cl tys s) (hc : cl[ci]? = some (C, T, N)) (k : Nat) (hk : k < N) (hlink : (Cond.fieldLink own index ref (T k).2.1 (T k).2.2.1).before args s = true) (hsame : ∀ x, s.fieldFound? (T k).1 (T k).2.1 (T k).2.2.1 = some x → s.fieldFound? ref (T k).2.1 (T k).2.2.1 = some x) (hfin : (T k).2.2.2 = false) {v : Value} (hdg : decode cc pc = .ok (.putfield index, 3)) (kk : vx_NoteN p l e R s m args below meth c H locs cells slots Q (F0 m pc ls rest)) : W p l e R s m args below meth c H locs cells slots Q (F0 m pc ls (v :: .null :: rest)) := by
  obtain ⟨hS, hfc, kC, hkC, -⟩ := hK.1 ci _ hc
  obtain ⟨cf, kf, fi, f, hi, -⟩ := hS k hk
  have hlay := hts _ (hin _ (u_in_lay hk))
  unfold u_lay at hlay
  rw [if_neg (by rw [hfin]; decide)] at hlay
  obtain ⟨c9, k9, cf9, kf9, fi9, f9, -, -, hi9, hst9, hnf9, -⟩ := Cond.lays_spec hlay
  cases hi.symm.trans hi9
  intro U hU X
  obtain ⟨vm', X1, st1⟩ := X.putfieldNull hexec hown hlink (hsame _ hi) hst9 hnf9 (g := F0 m pc ls (v :: .null :: rest)) rfl (v := v) (rest := rest) rfl (by rw [hb]; exact hdg)
  obtain ⟨t, st, q⟩ := kk (U.setVm vm') hU X1
  exact ⟨t, st1 t st, q⟩
theorem vx_putfNN {D cl tys} {own ref C host : String} {T : u_T} {N ci index : Nat} {Ts : List Cond} (hexec : p.tables.exec = Jvm.exec) (hb : c.code = cc) (hts : ∀ w ∈ Ts, w.before args s = true) (hin : ∀ w ∈ u_ws C T N, w ∈ Ts) (hown : s.vm.findClass own = some m.cls) (hK : va_K D cl tys s) (hc : cl[ci]? = some (C, T, N)) (k : Nat) (hk : k < N) (hlink : (Cond.fieldLinkNest own index ref (T k).2.1 (T k).2.2.1 host).before args s = true) (hsame : ∀ x, s.fieldFound? (T k).1 (T k).2.1 (T k).2.2.1 = some x → s.fieldFound? ref (T k).2.1 (T k).2.2.1 = some x) (hfin : (T k).2.2.2 = false) {v : Value} (hdg : decode cc pc = .ok (.putfield index, 3)) (kk : vx_NoteN p l e R s m args below meth c H locs cells slots Q (F0 m pc ls rest)) : W p l e R s m args below meth c H locs cells slots Q (F0 m pc ls (v :: .null :: rest)) := by
  obtain ⟨hS, hfc, kC, hkC, -⟩ := hK.1 ci _ hc
  obtain ⟨cf, kf, fi, f, hi, -⟩ := hS k hk
  have hlay := hts _ (hin _ (u_in_lay hk))
  unfold u_lay at hlay
  rw [if_neg (by rw [hfin]; decide)] at hlay
  obtain ⟨c9, k9, cf9, kf9, fi9, f9, -, -, hi9, hst9, hnf9, -⟩ := Cond.lays_spec hlay
  cases hi.symm.trans hi9
  intro U hU X
  obtain ⟨vm', X1, st1⟩ := X.putfieldNullNest hexec hown hlink (hsame _ hi) hst9 hnf9 (g := F0 m pc ls (v :: .null :: rest)) rfl (v := v) (rest := rest) rfl (by rw [hb]; exact hdg)
  obtain ⟨t, st, q⟩ := kk (U.setVm vm') hU X1
  exact ⟨t, st1 t st, q⟩
theorem vx_athrowN (hexec : p.tables.exec = Jvm.exec) (hb : c.code = cc) (hdg : decode cc pc = .ok (.athrow, 1)) (k : vx_NoteN p l e R s m args below meth c H locs cells slots Q (F0 m pc ls rest)) : W p l e R s m args below meth c H locs cells slots Q (F0 m pc ls (.null :: rest)) := by
  intro T hT X
  obtain ⟨t, st, q⟩ := k T hT X
  exact ⟨t, X.athrowNull hexec (g := F0 m pc ls (.null :: rest)) rfl (rest := rest) rfl (by rw [hb]; exact hdg) t st, q⟩
end VXM2
/-! ===== END ===== -/
end
section
-- ===== PART A: goes FIRST, ahead of the names: the tables' words, and 'selects' of the private methods out of them =====
/-- a private method of a class that the tables say can be made, by its rows of tables_1 -/
def lw_okq (q : MethodName × Nat) : Prop := (q.1.cls ≠ "java/lang/invoke/MethodHandle" ∧ q.1.cls ≠ "java/lang/invoke/VarHandle") ∧ Cond.instantiable q.1.cls q.2 ∈ tables_1 ∧ Cond.privateMethod q.1 ∈ tables_1 ∧ Cond.instanceMethod q.1 ∈ tables_1
theorem lw_p0 : lw_okq (⟨"CelHouse", "filmLength", "()I"⟩, 17) := ⟨⟨by decide +kernel, by decide +kernel⟩, List.mem_of_getElem? (i := 19) (by decide +kernel), List.mem_of_getElem? (i := 129) (by decide +kernel), List.mem_of_getElem? (i := 130) (by decide +kernel)⟩
theorem lw_p1 : lw_okq (⟨"CelHouse", "needRoomForDrawing", "()V"⟩, 17) := ⟨⟨by decide +kernel, by decide +kernel⟩, List.mem_of_getElem? (i := 19) (by decide +kernel), List.mem_of_getElem? (i := 141) (by decide +kernel), List.mem_of_getElem? (i := 142) (by decide +kernel)⟩
theorem lw_p2 : lw_okq (⟨"java/lang/Throwable", "fillInStackTrace", "(I)Ljava/lang/Throwable;"⟩, 6) := ⟨⟨by decide +kernel, by decide +kernel⟩, List.mem_of_getElem? (i := 183) (by decide +kernel), List.mem_of_getElem? (i := 181) (by decide +kernel), List.mem_of_getElem? (i := 182) (by decide +kernel)⟩
theorem lw_p3 : lw_okq (⟨"CelHouse", "needDrawing", "(I)V"⟩, 17) := ⟨⟨by decide +kernel, by decide +kernel⟩, List.mem_of_getElem? (i := 19) (by decide +kernel), List.mem_of_getElem? (i := 319) (by decide +kernel), List.mem_of_getElem? (i := 320) (by decide +kernel)⟩
theorem lw_p4 : lw_okq (⟨"CelHouse", "needChangeable", "(I)V"⟩, 17) := ⟨⟨by decide +kernel, by decide +kernel⟩, List.mem_of_getElem? (i := 19) (by decide +kernel), List.mem_of_getElem? (i := 403) (by decide +kernel), List.mem_of_getElem? (i := 404) (by decide +kernel)⟩
theorem lw_p5 : lw_okq (⟨"CelHouse", "letAllFollow", "(I)V"⟩, 17) := ⟨⟨by decide +kernel, by decide +kernel⟩, List.mem_of_getElem? (i := 19) (by decide +kernel), List.mem_of_getElem? (i := 417) (by decide +kernel), List.mem_of_getElem? (i := 418) (by decide +kernel)⟩
theorem lw_p6 : lw_okq (⟨"CelHouse", "framesHangingOn", "(I)I"⟩, 17) := ⟨⟨by decide +kernel, by decide +kernel⟩, List.mem_of_getElem? (i := 19) (by decide +kernel), List.mem_of_getElem? (i := 470) (by decide +kernel), List.mem_of_getElem? (i := 471) (by decide +kernel)⟩
theorem lw_p7 : lw_okq (⟨"CelHouse", "frameHangsOn", "(LCelHouse$Scene;II)Z"⟩, 17) := ⟨⟨by decide +kernel, by decide +kernel⟩, List.mem_of_getElem? (i := 19) (by decide +kernel), List.mem_of_getElem? (i := 474) (by decide +kernel), List.mem_of_getElem? (i := 475) (by decide +kernel)⟩
theorem lw_p8 : lw_okq (⟨"CelHouse", "drawingAt", "(LCelHouse$Scene;II)I"⟩, 17) := ⟨⟨by decide +kernel, by decide +kernel⟩, List.mem_of_getElem? (i := 19) (by decide +kernel), List.mem_of_getElem? (i := 478) (by decide +kernel), List.mem_of_getElem? (i := 479) (by decide +kernel)⟩
theorem lw_p9 : lw_okq (⟨"CelHouse", "needScene", "(I)V"⟩, 17) := ⟨⟨by decide +kernel, by decide +kernel⟩, List.mem_of_getElem? (i := 19) (by decide +kernel), List.mem_of_getElem? (i := 564) (by decide +kernel), List.mem_of_getElem? (i := 565) (by decide +kernel)⟩
theorem lw_p10 : lw_okq (⟨"CelHouse", "needFrame", "(II)V"⟩, 17) := ⟨⟨by decide +kernel, by decide +kernel⟩, List.mem_of_getElem? (i := 19) (by decide +kernel), List.mem_of_getElem? (i := 573) (by decide +kernel), List.mem_of_getElem? (i := 574) (by decide +kernel)⟩
theorem lw_p11 : lw_okq (⟨"CelHouse", "needPeg", "(I)V"⟩, 17) := ⟨⟨by decide +kernel, by decide +kernel⟩, List.mem_of_getElem? (i := 19) (by decide +kernel), List.mem_of_getElem? (i := 611) (by decide +kernel), List.mem_of_getElem? (i := 612) (by decide +kernel)⟩
theorem lw_p12 : lw_okq (⟨"CelHouse", "compose", "(LCelHouse$Scene;I)V"⟩, 17) := ⟨⟨by decide +kernel, by decide +kernel⟩, List.mem_of_getElem? (i := 19) (by decide +kernel), List.mem_of_getElem? (i := 669) (by decide +kernel), List.mem_of_getElem? (i := 670) (by decide +kernel)⟩
theorem lw_p13 : lw_okq (⟨"CelHouse", "pictureOf", "(LCelHouse$Drawing;)LCelHouse$Picture;"⟩, 17) := ⟨⟨by decide +kernel, by decide +kernel⟩, List.mem_of_getElem? (i := 19) (by decide +kernel), List.mem_of_getElem? (i := 697) (by decide +kernel), List.mem_of_getElem? (i := 698) (by decide +kernel)⟩
theorem lw_p14 : lw_okq (⟨"CelHouse", "layOver", "(LCelHouse$Picture;III)V"⟩, 17) := ⟨⟨by decide +kernel, by decide +kernel⟩, List.mem_of_getElem? (i := 19) (by decide +kernel), List.mem_of_getElem? (i := 749) (by decide +kernel), List.mem_of_getElem? (i := 750) (by decide +kernel)⟩
theorem lw_p15 : lw_okq (⟨"CelHouse", "plainPoint", "(LCelHouse$Drawing;II)I"⟩, 17) := ⟨⟨by decide +kernel, by decide +kernel⟩, List.mem_of_getElem? (i := 19) (by decide +kernel), List.mem_of_getElem? (i := 834) (by decide +kernel), List.mem_of_getElem? (i := 835) (by decide +kernel)⟩
def lw_privs_1 : List (MethodName × Nat) := [(⟨"CelHouse", "filmLength", "()I"⟩, 17), (⟨"CelHouse", "needRoomForDrawing", "()V"⟩, 17), (⟨"java/lang/Throwable", "fillInStackTrace", "(I)Ljava/lang/Throwable;"⟩, 6), (⟨"CelHouse", "needDrawing", "(I)V"⟩, 17), (⟨"CelHouse", "needChangeable", "(I)V"⟩, 17), (⟨"CelHouse", "letAllFollow", "(I)V"⟩, 17), (⟨"CelHouse", "framesHangingOn", "(I)I"⟩, 17), (⟨"CelHouse", "frameHangsOn", "(LCelHouse$Scene;II)Z"⟩, 17), (⟨"CelHouse", "drawingAt", "(LCelHouse$Scene;II)I"⟩, 17), (⟨"CelHouse", "needScene", "(I)V"⟩, 17), (⟨"CelHouse", "needFrame", "(II)V"⟩, 17), (⟨"CelHouse", "needPeg", "(I)V"⟩, 17), (⟨"CelHouse", "compose", "(LCelHouse$Scene;I)V"⟩, 17), (⟨"CelHouse", "pictureOf", "(LCelHouse$Drawing;)LCelHouse$Picture;"⟩, 17), (⟨"CelHouse", "layOver", "(LCelHouse$Picture;III)V"⟩, 17), (⟨"CelHouse", "plainPoint", "(LCelHouse$Drawing;II)I"⟩, 17)]
theorem lw_r1 : ∀ q ∈ lw_privs_1, lw_okq q := List.forall_mem_cons.mpr ⟨lw_p0, List.forall_mem_cons.mpr ⟨lw_p1, List.forall_mem_cons.mpr ⟨lw_p2, List.forall_mem_cons.mpr ⟨lw_p3, List.forall_mem_cons.mpr ⟨lw_p4, List.forall_mem_cons.mpr ⟨lw_p5, List.forall_mem_cons.mpr ⟨lw_p6, List.forall_mem_cons.mpr ⟨lw_p7, List.forall_mem_cons.mpr ⟨lw_p8, List.forall_mem_cons.mpr ⟨lw_p9, List.forall_mem_cons.mpr ⟨lw_p10, List.forall_mem_cons.mpr ⟨lw_p11, List.forall_mem_cons.mpr ⟨lw_p12, List.forall_mem_cons.mpr ⟨lw_p13, List.forall_mem_cons.mpr ⟨lw_p14, List.forall_mem_cons.mpr ⟨lw_p15, fun _ h => absurd h List.not_mem_nil⟩⟩⟩⟩⟩⟩⟩⟩⟩⟩⟩⟩⟩⟩⟩⟩
theorem lw_p16 : lw_okq (⟨"CelHouse", "hasEmptyDrawing", "(LCelHouse$Scene;I)Z"⟩, 17) := ⟨⟨by decide +kernel, by decide +kernel⟩, List.mem_of_getElem? (i := 19) (by decide +kernel), List.mem_of_getElem? (i := 872) (by decide +kernel), List.mem_of_getElem? (i := 873) (by decide +kernel)⟩
theorem lw_p17 : lw_okq (⟨"CelHouse", "hasFlash", "(LCelHouse$Scene;I)Z"⟩, 17) := ⟨⟨by decide +kernel, by decide +kernel⟩, List.mem_of_getElem? (i := 19) (by decide +kernel), List.mem_of_getElem? (i := 876) (by decide +kernel), List.mem_of_getElem? (i := 877) (by decide +kernel)⟩
theorem lw_p18 : lw_okq (⟨"CelHouse", "isComposedEmpty", "()Z"⟩, 17) := ⟨⟨by decide +kernel, by decide +kernel⟩, List.mem_of_getElem? (i := 19) (by decide +kernel), List.mem_of_getElem? (i := 880) (by decide +kernel), List.mem_of_getElem? (i := 881) (by decide +kernel)⟩
theorem lw_p19 : lw_okq (⟨"CelHouse", "firstFree", "([I)I"⟩, 17) := ⟨⟨by decide +kernel, by decide +kernel⟩, List.mem_of_getElem? (i := 19) (by decide +kernel), List.mem_of_getElem? (i := 892) (by decide +kernel), List.mem_of_getElem? (i := 893) (by decide +kernel)⟩
theorem lw_p20 : lw_okq (⟨"CelHouseModel", "asked", "(Z)Z"⟩, 46) := ⟨⟨by decide +kernel, by decide +kernel⟩, List.mem_of_getElem? (i := 905) (by decide +kernel), List.mem_of_getElem? (i := 1058) (by decide +kernel), List.mem_of_getElem? (i := 1059) (by decide +kernel)⟩
theorem lw_p21 : lw_okq (⟨"CelHouseModel", "makes", "(IIII)I"⟩, 46) := ⟨⟨by decide +kernel, by decide +kernel⟩, List.mem_of_getElem? (i := 905) (by decide +kernel), List.mem_of_getElem? (i := 1062) (by decide +kernel), List.mem_of_getElem? (i := 1063) (by decide +kernel)⟩
theorem lw_p22 : lw_okq (⟨"CelHouseModel", "isDrawing", "(I)Z"⟩, 46) := ⟨⟨by decide +kernel, by decide +kernel⟩, List.mem_of_getElem? (i := 905) (by decide +kernel), List.mem_of_getElem? (i := 1070) (by decide +kernel), List.mem_of_getElem? (i := 1071) (by decide +kernel)⟩
theorem lw_p23 : lw_okq (⟨"CelHouseModel", "asked", "(ZZZ)Z"⟩, 46) := ⟨⟨by decide +kernel, by decide +kernel⟩, List.mem_of_getElem? (i := 905) (by decide +kernel), List.mem_of_getElem? (i := 1077) (by decide +kernel), List.mem_of_getElem? (i := 1078) (by decide +kernel)⟩
theorem lw_p24 : lw_okq (⟨"CelHouseModel", "isOpen", "(I)Z"⟩, 46) := ⟨⟨by decide +kernel, by decide +kernel⟩, List.mem_of_getElem? (i := 905) (by decide +kernel), List.mem_of_getElem? (i := 1088) (by decide +kernel), List.mem_of_getElem? (i := 1089) (by decide +kernel)⟩
theorem lw_p25 : lw_okq (⟨"CelHouseModel", "strokeOf", "(II)I"⟩, 46) := ⟨⟨by decide +kernel, by decide +kernel⟩, List.mem_of_getElem? (i := 905) (by decide +kernel), List.mem_of_getElem? (i := 1092) (by decide +kernel), List.mem_of_getElem? (i := 1093) (by decide +kernel)⟩
theorem lw_p26 : lw_okq (⟨"CelHouseModel", "asked", "(ZZ)Z"⟩, 46) := ⟨⟨by decide +kernel, by decide +kernel⟩, List.mem_of_getElem? (i := 905) (by decide +kernel), List.mem_of_getElem? (i := 1108) (by decide +kernel), List.mem_of_getElem? (i := 1109) (by decide +kernel)⟩
theorem lw_p27 : lw_okq (⟨"CelHouseModel", "isLevel", "(II)Z"⟩, 46) := ⟨⟨by decide +kernel, by decide +kernel⟩, List.mem_of_getElem? (i := 905) (by decide +kernel), List.mem_of_getElem? (i := 1128) (by decide +kernel), List.mem_of_getElem? (i := 1129) (by decide +kernel)⟩
theorem lw_p28 : lw_okq (⟨"CelHouseModel", "isScene", "(I)Z"⟩, 46) := ⟨⟨by decide +kernel, by decide +kernel⟩, List.mem_of_getElem? (i := 905) (by decide +kernel), List.mem_of_getElem? (i := 1132) (by decide +kernel), List.mem_of_getElem? (i := 1133) (by decide +kernel)⟩
theorem lw_p29 : lw_okq (⟨"CelHouseModel", "isFrame", "(II)Z"⟩, 46) := ⟨⟨by decide +kernel, by decide +kernel⟩, List.mem_of_getElem? (i := 905) (by decide +kernel), List.mem_of_getElem? (i := 1136) (by decide +kernel), List.mem_of_getElem? (i := 1137) (by decide +kernel)⟩
theorem lw_p30 : lw_okq (⟨"CelHouseModel", "soundAt", "(II)I"⟩, 46) := ⟨⟨by decide +kernel, by decide +kernel⟩, List.mem_of_getElem? (i := 905) (by decide +kernel), List.mem_of_getElem? (i := 1144) (by decide +kernel), List.mem_of_getElem? (i := 1145) (by decide +kernel)⟩
theorem lw_p31 : lw_okq (⟨"CelHouseModel", "lays", "()V"⟩, 46) := ⟨⟨by decide +kernel, by decide +kernel⟩, List.mem_of_getElem? (i := 905) (by decide +kernel), List.mem_of_getElem? (i := 1172) (by decide +kernel), List.mem_of_getElem? (i := 1173) (by decide +kernel)⟩
def lw_privs_2 : List (MethodName × Nat) := [(⟨"CelHouse", "hasEmptyDrawing", "(LCelHouse$Scene;I)Z"⟩, 17), (⟨"CelHouse", "hasFlash", "(LCelHouse$Scene;I)Z"⟩, 17), (⟨"CelHouse", "isComposedEmpty", "()Z"⟩, 17), (⟨"CelHouse", "firstFree", "([I)I"⟩, 17), (⟨"CelHouseModel", "asked", "(Z)Z"⟩, 46), (⟨"CelHouseModel", "makes", "(IIII)I"⟩, 46), (⟨"CelHouseModel", "isDrawing", "(I)Z"⟩, 46), (⟨"CelHouseModel", "asked", "(ZZZ)Z"⟩, 46), (⟨"CelHouseModel", "isOpen", "(I)Z"⟩, 46), (⟨"CelHouseModel", "strokeOf", "(II)I"⟩, 46), (⟨"CelHouseModel", "asked", "(ZZ)Z"⟩, 46), (⟨"CelHouseModel", "isLevel", "(II)Z"⟩, 46), (⟨"CelHouseModel", "isScene", "(I)Z"⟩, 46), (⟨"CelHouseModel", "isFrame", "(II)Z"⟩, 46), (⟨"CelHouseModel", "soundAt", "(II)I"⟩, 46), (⟨"CelHouseModel", "lays", "()V"⟩, 46)]
theorem lw_r2 : ∀ q ∈ lw_privs_2, lw_okq q := List.forall_mem_cons.mpr ⟨lw_p16, List.forall_mem_cons.mpr ⟨lw_p17, List.forall_mem_cons.mpr ⟨lw_p18, List.forall_mem_cons.mpr ⟨lw_p19, List.forall_mem_cons.mpr ⟨lw_p20, List.forall_mem_cons.mpr ⟨lw_p21, List.forall_mem_cons.mpr ⟨lw_p22, List.forall_mem_cons.mpr ⟨lw_p23, List.forall_mem_cons.mpr ⟨lw_p24, List.forall_mem_cons.mpr ⟨lw_p25, List.forall_mem_cons.mpr ⟨lw_p26, List.forall_mem_cons.mpr ⟨lw_p27, List.forall_mem_cons.mpr ⟨lw_p28, List.forall_mem_cons.mpr ⟨lw_p29, List.forall_mem_cons.mpr ⟨lw_p30, List.forall_mem_cons.mpr ⟨lw_p31, fun _ h => absurd h List.not_mem_nil⟩⟩⟩⟩⟩⟩⟩⟩⟩⟩⟩⟩⟩⟩⟩⟩
theorem lw_p32 : lw_okq (⟨"CelHouseModel", "comes", "(I)V"⟩, 46) := ⟨⟨by decide +kernel, by decide +kernel⟩, List.mem_of_getElem? (i := 905) (by decide +kernel), List.mem_of_getElem? (i := 1176) (by decide +kernel), List.mem_of_getElem? (i := 1177) (by decide +kernel)⟩
theorem lw_p33 : lw_okq (⟨"CelHouseModel", "draws", "(I)V"⟩, 46) := ⟨⟨by decide +kernel, by decide +kernel⟩, List.mem_of_getElem? (i := 905) (by decide +kernel), List.mem_of_getElem? (i := 1180) (by decide +kernel), List.mem_of_getElem? (i := 1181) (by decide +kernel)⟩
theorem lw_p34 : lw_okq (⟨"CelHouseModel", "isLine", "(III)Z"⟩, 46) := ⟨⟨by decide +kernel, by decide +kernel⟩, List.mem_of_getElem? (i := 905) (by decide +kernel), List.mem_of_getElem? (i := 1187) (by decide +kernel), List.mem_of_getElem? (i := 1188) (by decide +kernel)⟩
theorem lw_p35 : lw_okq (⟨"CelHouseModel", "fills", "(III)V"⟩, 46) := ⟨⟨by decide +kernel, by decide +kernel⟩, List.mem_of_getElem? (i := 905) (by decide +kernel), List.mem_of_getElem? (i := 1191) (by decide +kernel), List.mem_of_getElem? (i := 1192) (by decide +kernel)⟩
theorem lw_p36 : lw_okq (⟨"CelHouseModel", "steps", "(III)V"⟩, 46) := ⟨⟨by decide +kernel, by decide +kernel⟩, List.mem_of_getElem? (i := 905) (by decide +kernel), List.mem_of_getElem? (i := 1195) (by decide +kernel), List.mem_of_getElem? (i := 1196) (by decide +kernel)⟩
theorem lw_p37 : lw_okq (⟨"CelHouseModel", "isStale", "(II)Z"⟩, 46) := ⟨⟨by decide +kernel, by decide +kernel⟩, List.mem_of_getElem? (i := 905) (by decide +kernel), List.mem_of_getElem? (i := 1199) (by decide +kernel), List.mem_of_getElem? (i := 1200) (by decide +kernel)⟩
theorem lw_p38 : lw_okq (⟨"CelHouseModel", "seenAt", "(IIII)I"⟩, 46) := ⟨⟨by decide +kernel, by decide +kernel⟩, List.mem_of_getElem? (i := 905) (by decide +kernel), List.mem_of_getElem? (i := 1203) (by decide +kernel), List.mem_of_getElem? (i := 1204) (by decide +kernel)⟩
theorem lw_p39 : lw_okq (⟨"CelHouseModel", "hasAt", "(III)I"⟩, 46) := ⟨⟨by decide +kernel, by decide +kernel⟩, List.mem_of_getElem? (i := 905) (by decide +kernel), List.mem_of_getElem? (i := 1207) (by decide +kernel), List.mem_of_getElem? (i := 1208) (by decide +kernel)⟩
theorem lw_p40 : lw_okq (⟨"CelHouseModel", "movedBy", "(IIIZ)I"⟩, 46) := ⟨⟨by decide +kernel, by decide +kernel⟩, List.mem_of_getElem? (i := 905) (by decide +kernel), List.mem_of_getElem? (i := 1211) (by decide +kernel), List.mem_of_getElem? (i := 1212) (by decide +kernel)⟩
theorem lw_p41 : lw_okq (⟨"CelHouseModel", "placeOf", "(IIZ)I"⟩, 46) := ⟨⟨by decide +kernel, by decide +kernel⟩, List.mem_of_getElem? (i := 905) (by decide +kernel), List.mem_of_getElem? (i := 1215) (by decide +kernel), List.mem_of_getElem? (i := 1216) (by decide +kernel)⟩
theorem lw_p42 : lw_okq (⟨"CelHouseModel", "ownOf", "(IIZ)I"⟩, 46) := ⟨⟨by decide +kernel, by decide +kernel⟩, List.mem_of_getElem? (i := 905) (by decide +kernel), List.mem_of_getElem? (i := 1219) (by decide +kernel), List.mem_of_getElem? (i := 1220) (by decide +kernel)⟩
theorem lw_p43 : lw_okq (⟨"CelHouseModel", "hangsOn", "(III)Z"⟩, 46) := ⟨⟨by decide +kernel, by decide +kernel⟩, List.mem_of_getElem? (i := 905) (by decide +kernel), List.mem_of_getElem? (i := 1227) (by decide +kernel), List.mem_of_getElem? (i := 1228) (by decide +kernel)⟩
theorem lw_p44 : lw_okq (⟨"CelHouseModel", "isOn", "(II)Z"⟩, 46) := ⟨⟨by decide +kernel, by decide +kernel⟩, List.mem_of_getElem? (i := 905) (by decide +kernel), List.mem_of_getElem? (i := 1231) (by decide +kernel), List.mem_of_getElem? (i := 1232) (by decide +kernel)⟩
theorem lw_p45 : lw_okq (⟨"CelHouseModel", "filmed", "()I"⟩, 46) := ⟨⟨by decide +kernel, by decide +kernel⟩, List.mem_of_getElem? (i := 905) (by decide +kernel), List.mem_of_getElem? (i := 1243) (by decide +kernel), List.mem_of_getElem? (i := 1244) (by decide +kernel)⟩
def lw_privs_3 : List (MethodName × Nat) := [(⟨"CelHouseModel", "comes", "(I)V"⟩, 46), (⟨"CelHouseModel", "draws", "(I)V"⟩, 46), (⟨"CelHouseModel", "isLine", "(III)Z"⟩, 46), (⟨"CelHouseModel", "fills", "(III)V"⟩, 46), (⟨"CelHouseModel", "steps", "(III)V"⟩, 46), (⟨"CelHouseModel", "isStale", "(II)Z"⟩, 46), (⟨"CelHouseModel", "seenAt", "(IIII)I"⟩, 46), (⟨"CelHouseModel", "hasAt", "(III)I"⟩, 46), (⟨"CelHouseModel", "movedBy", "(IIIZ)I"⟩, 46), (⟨"CelHouseModel", "placeOf", "(IIZ)I"⟩, 46), (⟨"CelHouseModel", "ownOf", "(IIZ)I"⟩, 46), (⟨"CelHouseModel", "hangsOn", "(III)Z"⟩, 46), (⟨"CelHouseModel", "isOn", "(II)Z"⟩, 46), (⟨"CelHouseModel", "filmed", "()I"⟩, 46)]
theorem lw_r3 : ∀ q ∈ lw_privs_3, lw_okq q := List.forall_mem_cons.mpr ⟨lw_p32, List.forall_mem_cons.mpr ⟨lw_p33, List.forall_mem_cons.mpr ⟨lw_p34, List.forall_mem_cons.mpr ⟨lw_p35, List.forall_mem_cons.mpr ⟨lw_p36, List.forall_mem_cons.mpr ⟨lw_p37, List.forall_mem_cons.mpr ⟨lw_p38, List.forall_mem_cons.mpr ⟨lw_p39, List.forall_mem_cons.mpr ⟨lw_p40, List.forall_mem_cons.mpr ⟨lw_p41, List.forall_mem_cons.mpr ⟨lw_p42, List.forall_mem_cons.mpr ⟨lw_p43, List.forall_mem_cons.mpr ⟨lw_p44, List.forall_mem_cons.mpr ⟨lw_p45, fun _ h => absurd h List.not_mem_nil⟩⟩⟩⟩⟩⟩⟩⟩⟩⟩⟩⟩⟩⟩
def lw_privs : List (MethodName × Nat) := lw_privs_1 ++ (lw_privs_2 ++ (lw_privs_3))
def lw_tbl : List Cond := k2_sels lw_privs ++ tables_1
theorem lw_privs_ok : ∀ q ∈ lw_privs, lw_okq q := by
  show ∀ q ∈ lw_privs_1 ++ (lw_privs_2 ++ (lw_privs_3)), lw_okq q
  exact List.forall_mem_append.mpr ⟨lw_r1, List.forall_mem_append.mpr ⟨lw_r2, lw_r3⟩⟩
def mC_0 : u_T := fun k => match k with
  | 0 => ("CelHouse$Drawing", "a", "LCelHouse$Drawing;", true)
  | 1 => ("CelHouse$Drawing", "b", "LCelHouse$Drawing;", true)
  | 2 => ("CelHouse$Drawing", "n", "I", true)
  | 3 => ("CelHouse$Drawing", "d", "I", true)
  | 4 => ("CelHouse$Drawing", "hangsOn", "I", true)
  | 5 => ("CelHouse$Drawing", "strokes", "[LCelHouse$Stroke;", true)
  | 6 => ("CelHouse$Drawing", "strokeCount", "I", false)
  | 7 => ("CelHouse$Drawing", "paintPlaces", "[I", true)
  | 8 => ("CelHouse$Drawing", "paintColours", "[I", true)
  | 9 => ("CelHouse$Drawing", "paintCount", "I", false)
  | 10 => ("CelHouse$Drawing", "isClosed", "Z", false)
  | 11 => ("CelHouse$Drawing", "isApproved", "Z", false)
  | 12 => ("CelHouse$Drawing", "picture", "LCelHouse$Picture;", true)
  | _ => ("CelHouse$Drawing", "isPictured", "Z", false)
def mT_0 : Nat → FieldType := fun k => match k with
  | 0 => .object "CelHouse$Drawing"
  | 1 => .object "CelHouse$Drawing"
  | 2 => .int
  | 3 => .int
  | 4 => .int
  | 5 => .array (.object "CelHouse$Stroke")
  | 6 => .int
  | 7 => .array .int
  | 8 => .array .int
  | 9 => .int
  | 10 => .boolean
  | 11 => .boolean
  | 12 => .object "CelHouse$Picture"
  | _ => .boolean
def mC_1 : u_T := fun k => match k with
  | 0 => ("CelHouse$Fill", "queue", "[I", true)
  | 1 => ("CelHouse$Fill", "reached", "[I", true)
  | _ => ("CelHouse$Fill", "count", "I", false)
def mT_1 : Nat → FieldType := fun k => match k with
  | 0 => .array .int
  | 1 => .array .int
  | _ => .int
def mC_2 : u_T := fun k => match k with
  | 0 => ("CelHouse$Peg", "by", "LCelHouse$Peg;", true)
  | 1 => ("CelHouse$Peg", "isTold", "[Z", true)
  | 2 => ("CelHouse$Peg", "toldX", "[I", true)
  | 3 => ("CelHouse$Peg", "toldY", "[I", true)
  | _ => ("CelHouse$Peg", "toldCount", "I", false)
def mT_2 : Nat → FieldType := fun k => match k with
  | 0 => .object "CelHouse$Peg"
  | 1 => .array .boolean
  | 2 => .array .int
  | 3 => .array .int
  | _ => .int
def mC_3 : u_T := fun k => match k with
  | 0 => ("CelHouse$Picture", "lines", "[I", true)
  | 1 => ("CelHouse$Picture", "walls", "[I", true)
  | _ => ("CelHouse$Picture", "points", "[I", true)
def mT_3 : Nat → FieldType := fun k => match k with
  | 0 => .array .int
  | 1 => .array .int
  | _ => .array .int
def mC_4 : u_T := fun k => match k with
  | 0 => ("CelHouse$Scene", "frames", "I", true)
  | 1 => ("CelHouse$Scene", "palette", "I", true)
  | 2 => ("CelHouse$Scene", "sheets", "[I", true)
  | 3 => ("CelHouse$Scene", "sounds", "[I", true)
  | 4 => ("CelHouse$Scene", "isOfVoice", "[Z", true)
  | 5 => ("CelHouse$Scene", "pegs", "[LCelHouse$Peg;", true)
  | 6 => ("CelHouse$Scene", "depths", "[I", true)
  | 7 => ("CelHouse$Scene", "camera", "LCelHouse$Peg;", false)
  | _ => ("CelHouse$Scene", "shots", "[I", true)
def mT_4 : Nat → FieldType := fun k => match k with
  | 0 => .int
  | 1 => .int
  | 2 => .array .int
  | 3 => .array .int
  | 4 => .array .boolean
  | 5 => .array (.object "CelHouse$Peg")
  | 6 => .array .int
  | 7 => .object "CelHouse$Peg"
  | _ => .array .int
def mC_5 : u_T := fun k => match k with
  | 0 => ("CelHouse$Stroke", "name", "I", false)
  | 1 => ("CelHouse$Stroke", "fromX", "I", false)
  | 2 => ("CelHouse$Stroke", "fromY", "I", false)
  | 3 => ("CelHouse$Stroke", "toX", "I", false)
  | 4 => ("CelHouse$Stroke", "toY", "I", false)
  | _ => ("CelHouse$Stroke", "colourName", "I", false)
def mT_5 : Nat → FieldType := fun k => match k with
  | 0 => .int
  | 1 => .int
  | 2 => .int
  | 3 => .int
  | 4 => .int
  | _ => .int
def mC_6 : u_T := fun k => match k with
  | 0 => ("CelHouse", "drawings", "[LCelHouse$Drawing;", true)
  | 1 => ("CelHouse", "drawingCount", "I", false)
  | 2 => ("CelHouse", "penX", "I", false)
  | 3 => ("CelHouse", "penY", "I", false)
  | 4 => ("CelHouse", "paletteColours", "[I", true)
  | 5 => ("CelHouse", "scenes", "[LCelHouse$Scene;", true)
  | 6 => ("CelHouse", "sceneCount", "I", false)
  | 7 => ("CelHouse", "mouths", "[I", true)
  | 8 => ("CelHouse", "pegs", "[LCelHouse$Peg;", true)
  | 9 => ("CelHouse", "pegCount", "I", false)
  | 10 => ("CelHouse", "speeds", "[I", true)
  | 11 => ("CelHouse", "handCount", "I", false)
  | 12 => ("CelHouse", "splices", "[I", true)
  | 13 => ("CelHouse", "spliceCount", "I", false)
  | 14 => ("CelHouse", "composed", "[I", true)
  | 15 => ("CelHouse", "sketch", "LCelHouse$Picture;", true)
  | _ => ("CelHouse", "fill", "LCelHouse$Fill;", true)
def mT_6 : Nat → FieldType := fun k => match k with
  | 0 => .array (.object "CelHouse$Drawing")
  | 1 => .int
  | 2 => .int
  | 3 => .int
  | 4 => .array .int
  | 5 => .array (.object "CelHouse$Scene")
  | 6 => .int
  | 7 => .array .int
  | 8 => .array (.object "CelHouse$Peg")
  | 9 => .int
  | 10 => .array .int
  | 11 => .int
  | 12 => .array .int
  | 13 => .int
  | 14 => .array .int
  | 15 => .object "CelHouse$Picture"
  | _ => .object "CelHouse$Fill"
def mC_7 : u_T := fun k => match k with
  | 0 => ("CelHouseModel", "thrown", "I", false)
  | 1 => ("CelHouseModel", "penX", "I", false)
  | 2 => ("CelHouseModel", "penY", "I", false)
  | 3 => ("CelHouseModel", "drawings", "I", false)
  | 4 => ("CelHouseModel", "first", "[I", true)
  | 5 => ("CelHouseModel", "second", "[I", true)
  | 6 => ("CelHouseModel", "part", "[I", true)
  | 7 => ("CelHouseModel", "whole", "[I", true)
  | 8 => ("CelHouseModel", "good", "[Z", true)
  | 9 => ("CelHouseModel", "strokes", "[I", true)
  | 10 => ("CelHouseModel", "name", "[I", true)
  | 11 => ("CelHouseModel", "ink", "[I", true)
  | 12 => ("CelHouseModel", "ends", "[I", true)
  | 13 => ("CelHouseModel", "paints", "[I", true)
  | 14 => ("CelHouseModel", "spot", "[I", true)
  | 15 => ("CelHouseModel", "fill", "[I", true)
  | 16 => ("CelHouseModel", "closed", "[Z", true)
  | 17 => ("CelHouseModel", "isOld", "Z", false)
  | 18 => ("CelHouseModel", "picture", "[I", true)
  | 19 => ("CelHouseModel", "mark", "[I", true)
  | 20 => ("CelHouseModel", "way", "[I", true)
  | 21 => ("CelHouseModel", "come", "[Z", true)
  | 22 => ("CelHouseModel", "colour", "[I", true)
  | 23 => ("CelHouseModel", "scenes", "I", false)
  | 24 => ("CelHouseModel", "frames", "[I", true)
  | 25 => ("CelHouseModel", "palette", "[I", true)
  | 26 => ("CelHouseModel", "sheet", "[I", true)
  | 27 => ("CelHouseModel", "voice", "[I", true)
  | 28 => ("CelHouseModel", "speaks", "[Z", true)
  | 29 => ("CelHouseModel", "hung", "[I", true)
  | 30 => ("CelHouseModel", "depth", "[I", true)
  | 31 => ("CelHouseModel", "mouth", "[I", true)
  | 32 => ("CelHouseModel", "pegs", "I", false)
  | 33 => ("CelHouseModel", "carrier", "[I", true)
  | 34 => ("CelHouseModel", "told", "[I", true)
  | 35 => ("CelHouseModel", "toldAt", "[I", true)
  | 36 => ("CelHouseModel", "toldX", "[I", true)
  | 37 => ("CelHouseModel", "toldY", "[I", true)
  | 38 => ("CelHouseModel", "isShot", "[Z", true)
  | 39 => ("CelHouseModel", "shot", "[I", true)
  | 40 => ("CelHouseModel", "hands", "I", false)
  | 41 => ("CelHouseModel", "speed", "[I", true)
  | 42 => ("CelHouseModel", "busy", "[I", true)
  | 43 => ("CelHouseModel", "film", "I", false)
  | 44 => ("CelHouseModel", "reel", "[I", true)
  | _ => ("CelHouseModel", "ways", "I", false)
def mT_7 : Nat → FieldType := fun k => match k with
  | 0 => .int
  | 1 => .int
  | 2 => .int
  | 3 => .int
  | 4 => .array .int
  | 5 => .array .int
  | 6 => .array .int
  | 7 => .array .int
  | 8 => .array .boolean
  | 9 => .array .int
  | 10 => .array .int
  | 11 => .array .int
  | 12 => .array .int
  | 13 => .array .int
  | 14 => .array .int
  | 15 => .array .int
  | 16 => .array .boolean
  | 17 => .boolean
  | 18 => .array .int
  | 19 => .array .int
  | 20 => .array .int
  | 21 => .array .boolean
  | 22 => .array .int
  | 23 => .int
  | 24 => .array .int
  | 25 => .array .int
  | 26 => .array .int
  | 27 => .array .int
  | 28 => .array .boolean
  | 29 => .array .int
  | 30 => .array .int
  | 31 => .array .int
  | 32 => .int
  | 33 => .array .int
  | 34 => .array .int
  | 35 => .array .int
  | 36 => .array .int
  | 37 => .array .int
  | 38 => .array .boolean
  | 39 => .array .int
  | 40 => .int
  | 41 => .array .int
  | 42 => .array .int
  | 43 => .int
  | 44 => .array .int
  | _ => .int
def mj_cl : List vw_C := [("CelHouse$Drawing", mC_0, 14), ("CelHouse$Fill", mC_1, 3), ("CelHouse$Peg", mC_2, 5), ("CelHouse$Picture", mC_3, 3), ("CelHouse$Scene", mC_4, 9), ("CelHouse$Stroke", mC_5, 6), ("CelHouse", mC_6, 17), ("CelHouseModel", mC_7, 46)]
def mj_fT (ci : Nat) : Nat → FieldType := match ci with
  | 0 => mT_0
  | 1 => mT_1
  | 2 => mT_2
  | 3 => mT_3
  | 4 => mT_4
  | 5 => mT_5
  | 6 => mT_6
  | _ => mT_7
/-- the words that stay true as the tables warm -/
def mj_TB : List Cond := lw_tbl.filter goodWord
theorem mj_TBin {w : Cond} (i : Nat) (h : lw_tbl[i]? = some w) (hg : goodWord w = true) : w ∈ mj_TB := List.mem_filter.mpr ⟨List.mem_of_getElem? h, hg⟩
theorem mU_0 : ∀ w ∈ u_ws "CelHouse$Drawing" mC_0 14, w ∈ mj_TB := by decide +kernel
theorem mN_0 : ∀ a, a < 14 → ∀ b, b < 14 → a ≠ b → (mC_0 a).2.1 ≠ (mC_0 b).2.1 := by decide +kernel
theorem mY_0 : ∀ k, k < 14 → parseFieldDescriptor (mC_0 k).2.2.1 = some (mT_0 k) := by decide +kernel
theorem mU_1 : ∀ w ∈ u_ws "CelHouse$Fill" mC_1 3, w ∈ mj_TB := by decide +kernel
theorem mN_1 : ∀ a, a < 3 → ∀ b, b < 3 → a ≠ b → (mC_1 a).2.1 ≠ (mC_1 b).2.1 := by decide +kernel
theorem mY_1 : ∀ k, k < 3 → parseFieldDescriptor (mC_1 k).2.2.1 = some (mT_1 k) := by decide +kernel
theorem mU_2 : ∀ w ∈ u_ws "CelHouse$Peg" mC_2 5, w ∈ mj_TB := by decide +kernel
theorem mN_2 : ∀ a, a < 5 → ∀ b, b < 5 → a ≠ b → (mC_2 a).2.1 ≠ (mC_2 b).2.1 := by decide +kernel
theorem mY_2 : ∀ k, k < 5 → parseFieldDescriptor (mC_2 k).2.2.1 = some (mT_2 k) := by decide +kernel
theorem mU_3 : ∀ w ∈ u_ws "CelHouse$Picture" mC_3 3, w ∈ mj_TB := by decide +kernel
theorem mN_3 : ∀ a, a < 3 → ∀ b, b < 3 → a ≠ b → (mC_3 a).2.1 ≠ (mC_3 b).2.1 := by decide +kernel
theorem mY_3 : ∀ k, k < 3 → parseFieldDescriptor (mC_3 k).2.2.1 = some (mT_3 k) := by decide +kernel
theorem mU_4 : ∀ w ∈ u_ws "CelHouse$Scene" mC_4 9, w ∈ mj_TB := by decide +kernel
theorem mN_4 : ∀ a, a < 9 → ∀ b, b < 9 → a ≠ b → (mC_4 a).2.1 ≠ (mC_4 b).2.1 := by decide +kernel
theorem mY_4 : ∀ k, k < 9 → parseFieldDescriptor (mC_4 k).2.2.1 = some (mT_4 k) := by decide +kernel
theorem mU_5 : ∀ w ∈ u_ws "CelHouse$Stroke" mC_5 6, w ∈ mj_TB := by decide +kernel
theorem mN_5 : ∀ a, a < 6 → ∀ b, b < 6 → a ≠ b → (mC_5 a).2.1 ≠ (mC_5 b).2.1 := by decide +kernel
theorem mY_5 : ∀ k, k < 6 → parseFieldDescriptor (mC_5 k).2.2.1 = some (mT_5 k) := by decide +kernel
theorem mU_6 : ∀ w ∈ u_ws "CelHouse" mC_6 17, w ∈ mj_TB := by decide +kernel
theorem mN_6 : ∀ a, a < 17 → ∀ b, b < 17 → a ≠ b → (mC_6 a).2.1 ≠ (mC_6 b).2.1 := by decide +kernel
theorem mY_6 : ∀ k, k < 17 → parseFieldDescriptor (mC_6 k).2.2.1 = some (mT_6 k) := by decide +kernel
theorem mU_7 : ∀ w ∈ u_ws "CelHouseModel" mC_7 46, w ∈ mj_TB := by decide +kernel
theorem mN_7 : ∀ a, a < 46 → ∀ b, b < 46 → a ≠ b → (mC_7 a).2.1 ≠ (mC_7 b).2.1 := by decide +kernel
theorem mY_7 : ∀ k, k < 46 → parseFieldDescriptor (mC_7 k).2.2.1 = some (mT_7 k) := by decide +kernel
theorem mj_cls {ci : Nat} {r : vw_C} (h : mj_cl[ci]? = some r) : (∀ w ∈ u_ws r.1 r.2.1 r.2.2, w ∈ mj_TB) ∧ (∀ a, a < r.2.2 → ∀ b, b < r.2.2 → a ≠ b → (r.2.1 a).2.1 ≠ (r.2.1 b).2.1) ∧ (∀ k, k < r.2.2 → parseFieldDescriptor (r.2.1 k).2.2.1 = some (mj_fT ci k)) := by
  match ci, h with
  | 0, h => cases h; exact ⟨mU_0, mN_0, mY_0⟩
  | 1, h => cases h; exact ⟨mU_1, mN_1, mY_1⟩
  | 2, h => cases h; exact ⟨mU_2, mN_2, mY_2⟩
  | 3, h => cases h; exact ⟨mU_3, mN_3, mY_3⟩
  | 4, h => cases h; exact ⟨mU_4, mN_4, mY_4⟩
  | 5, h => cases h; exact ⟨mU_5, mN_5, mY_5⟩
  | 6, h => cases h; exact ⟨mU_6, mN_6, mY_6⟩
  | 7, h => cases h; exact ⟨mU_7, mN_7, mY_7⟩
  | n + 8, h => simp [mj_cl] at h
end
section
/-! THE SMALL MACHINE: objects and arrays have codes (whole numbers of the prover's choice), ints are whole numbers; mj_X is 'the machine, from here, with this memory, comes to its post' -/
section MJA
/-- a value: an int, a reference (its code), a long -/
abbrev mj_V : Type := Int ⊕ (Option Int ⊕ Int)
abbrev mI (x : Int) : mj_V := .inl x
abbrev mR (r : Option Int) : mj_V := .inr (.inl r)
abbrev mZ (x : Int) : mj_V := .inr (.inr x)
/-- where the cells of the codes lie -/
abbrev mj_P : Type := Int → Option Nat
def mj_c (ρ : mj_P) (v : mj_V) : Value := match v with
  | .inl x => .int (Int32.ofInt x)
  | .inr (.inl r) => va_rf (r.map fun c => (ρ c).getD 0)
  | .inr (.inr x) => .long (Int64.ofInt x)
/-- a memory: what a code is (a class by its number; an array: its kind, its length), its whole numbers, its references -/
abbrev mj_M : Type := (Int → Option (Nat ⊕ (Nat × Int))) × (Int → Int → Int) × (Int → Int → Option Int)
def gS (A : mj_M) (c : Int) : Option (Nat ⊕ (Nat × Int)) := A.1 c
def gI (A : mj_M) (c i : Int) : Int := A.2.1 c i
def gP (A : mj_M) (c i : Int) : Option Int := A.2.2 c i
def sI (A : mj_M) (c i : Int) (v : Int) : mj_M := (A.1, fun c' i' => if c' = c ∧ i' = i then v else A.2.1 c' i', A.2.2)
def sP (A : mj_M) (c i : Int) (v : Option Int) : mj_M := (A.1, A.2.1, fun c' i' => if c' = c ∧ i' = i then v else A.2.2 c' i')
def sN (A : mj_M) (c : Int) (x : Nat ⊕ (Nat × Int)) : mj_M := (fun c' => if c' = c then some x else A.1 c', fun c' i' => if c' = c then 0 else A.2.1 c' i', fun c' i' => if c' = c then none else A.2.2 c' i')
/-- a whole array anew -/
def sF (A : mj_M) (c : Int) (f : Int → Int) : mj_M := (A.1, fun c' i' => if c' = c then f i' else A.2.1 c' i', A.2.2)
theorem gS_sI (A : mj_M) (c i v c' : Int) : gS (sI A c i v) c' = gS A c' := rfl
theorem gS_sP (A : mj_M) (c i : Int) (v : Option Int) (c' : Int) : gS (sP A c i v) c' = gS A c' := rfl
theorem gS_sF (A : mj_M) (c : Int) (f : Int → Int) (c' : Int) : gS (sF A c f) c' = gS A c' := rfl
theorem gS_sN (A : mj_M) (c : Int) (x : Nat ⊕ (Nat × Int)) (c' : Int) : gS (sN A c x) c' = if c' = c then some x else gS A c' := rfl
theorem gI_sI (A : mj_M) (c i v c' i' : Int) : gI (sI A c i v) c' i' = if c' = c ∧ i' = i then v else gI A c' i' := rfl
theorem gI_sP (A : mj_M) (c i : Int) (v : Option Int) (c' i' : Int) : gI (sP A c i v) c' i' = gI A c' i' := rfl
theorem gI_sF (A : mj_M) (c : Int) (f : Int → Int) (c' i' : Int) : gI (sF A c f) c' i' = if c' = c then f i' else gI A c' i' := rfl
theorem gI_sN (A : mj_M) (c : Int) (x : Nat ⊕ (Nat × Int)) (c' i' : Int) : gI (sN A c x) c' i' = if c' = c then 0 else gI A c' i' := rfl
theorem gP_sI (A : mj_M) (c i v c' i' : Int) : gP (sI A c i v) c' i' = gP A c' i' := rfl
theorem gP_sP (A : mj_M) (c i : Int) (v : Option Int) (c' i' : Int) : gP (sP A c i v) c' i' = if c' = c ∧ i' = i then v else gP A c' i' := rfl
theorem gP_sF (A : mj_M) (c : Int) (f : Int → Int) (c' i' : Int) : gP (sF A c f) c' i' = gP A c' i' := rfl
theorem gP_sN (A : mj_M) (c : Int) (x : Nat ⊕ (Nat × Int)) (c' i' : Int) : gP (sN A c x) c' i' = if c' = c then none else gP A c' i' := rfl
def r32 (x : Int) : Prop := -2147483648 ≤ x ∧ x < 2147483648
theorem r32_toInt {x : Int} (h : r32 x) : (Int32.ofInt x).toInt = x := Int32.toInt_ofInt_of_le (by have := h.1; omega) (by have := h.2; omega)
theorem r32_lt {x y : Int} (hx : r32 x) (hy : r32 y) : Int32.ofInt x < Int32.ofInt y ↔ x < y := by rw [Int32.lt_iff_toInt_lt, r32_toInt hx, r32_toInt hy]
theorem r32_le {x y : Int} (hx : r32 x) (hy : r32 y) : Int32.ofInt x ≤ Int32.ofInt y ↔ x ≤ y := by rw [Int32.le_iff_toInt_le, r32_toInt hx, r32_toInt hy]
theorem r32_eq {x y : Int} (hx : r32 x) (hy : r32 y) : Int32.ofInt x = Int32.ofInt y ↔ x = y := by rw [← Int32.toInt_inj, r32_toInt hx, r32_toInt hy]
theorem r32_nat {x : Int} (h : r32 x) : (Int32.ofInt x).toNatClampNeg = x.toNat := by show (Int32.ofInt x).toInt.toNat = _; rw [r32_toInt h]
theorem r32_0 : r32 0 := ⟨by decide, by decide⟩
theorem r32_lt0 {x : Int} (hx : r32 x) : Int32.ofInt x < 0 ↔ x < 0 := r32_lt (y := 0) hx r32_0
theorem r32_eq0 {x : Int} (hx : r32 x) : Int32.ofInt x = 0 ↔ x = 0 := r32_eq (y := 0) hx r32_0
theorem r32_le0 {x : Int} (hx : r32 x) : Int32.ofInt x ≤ 0 ↔ x ≤ 0 := r32_le (y := 0) hx r32_0
theorem r32_in {i n : Int} (h0 : 0 ≤ i) (h1 : i < n) (hn : r32 i) : ¬ (Int32.ofInt i < 0 ∨ n.toNat ≤ (Int32.ofInt i).toNatClampNeg) := by
  rw [r32_lt0 hn, r32_nat hn]; omega
/-- kinds of arrays -/
def mj_ty (t : Nat) : FieldType := if t = 0 then .int else if t = 1 then .boolean else if t = 2 then .long else if t = 3 then .object "CelHouse$Drawing" else if t = 4 then .object "CelHouse$Peg" else if t = 5 then .object "CelHouse$Scene" else .object "CelHouse$Stroke"
/-- launch, where our cells begin, the classes' numbers and slots, the arrays' classes -/
abbrev mj_G : Type := Launch × Nat × va_G × (Nat → ClassId)
/-- is field k of class ci a reference -/
def mj_rf (ci k : Nat) : Bool := match mj_fT ci k with
  | .int => false
  | .boolean => false
  | _ => true
def mj_fv (ρ : mj_P) (A : mj_M) (ci : Nat) (c : Int) (k : Nat) : Value := if mj_rf ci k = true then mj_c ρ (mR (gP A c (k : Int))) else mj_c ρ (mI (gI A c (k : Int)))
def mj_av (ρ : mj_P) (A : mj_M) (c : Int) (t : Nat) (j : Nat) : Value := if 3 ≤ t then mj_c ρ (mR (gP A c (j : Int))) else if t = 2 then mj_c ρ (mZ (gI A c (j : Int))) else mj_c ρ (mI (gI A c (j : Int)))
def mj_ce (G : mj_G) (ρ : mj_P) (A : mj_M) (H : Heap) (c : Int) (a : Nat) (x : Nat ⊕ (Nat × Int)) : Prop := match x with
  | .inl ci => ∃ r : vw_C, mj_cl[ci]? = some r ∧ t_OB a (G.2.2.1.1 ci) r.2.2 (G.2.2.1.2 ci) H (mj_fv ρ A ci c)
  | .inr q => q.1 < 7 ∧ 0 ≤ q.2 ∧ q.2 < 2147483648 ∧ H[a]? = some (arrV (G.2.2.2 q.1) q.2.toNat (mj_av ρ A c q.1))
def mj_at (G : mj_G) (ρ : mj_P) (A : mj_M) (H : Heap) (c : Int) : Prop := match gS A c with
  | none => ρ c = none
  | some x => ∃ a, ρ c = some a ∧ G.2.1 ≤ a ∧ mj_ce G ρ A H c a x
/-- the heap holds the memory -/
def mj_H (G : mj_G) (ρ : mj_P) (A : mj_M) (H : Heap) : Prop :=
  (∀ c, mj_at G ρ A H c) ∧ (∀ c c' a, ρ c = some a → ρ c' = some a → c = c') ∧ (∀ c i q, gS A c ≠ none → gP A c i = some q → gS A q ≠ none) ∧ ∀ c i, r32 (gI A c i)
def mj_ext (ρ ρ' : mj_P) : Prop := ∀ c a, ρ c = some a → ρ' c = some a
def mj_ok (ρ : mj_P) (v : mj_V) : Prop := ∀ c, v = mR (some c) → ρ c ≠ none
theorem mj_ext.rf {ρ : mj_P} : mj_ext ρ ρ := fun _ _ h => h
theorem mj_ext.tr {ρ ρ' ρ'' : mj_P} (h : mj_ext ρ ρ') (h' : mj_ext ρ' ρ'') : mj_ext ρ ρ'' := fun c a q => h' c a (h c a q)
theorem mj_ok.ext {ρ ρ' : mj_P} {v : mj_V} (h : mj_ok ρ v) (he : mj_ext ρ ρ') : mj_ok ρ' v := by
  intro c hc hn
  cases hr : ρ c with
  | none => exact h c hc hr
  | some a => rw [he c a hr] at hn; cases hn
theorem mj_c_ext {ρ ρ' : mj_P} {v : mj_V} (h : mj_ok ρ v) (he : mj_ext ρ ρ') : mj_c ρ' v = mj_c ρ v := by
  rcases v with x | r | x
  · rfl
  · cases r with
    | none => rfl
    | some c =>
      cases hr : ρ c with
      | none => exact absurd hr (h c rfl)
      | some a => simp [mj_c, hr, he c a hr]
  · rfl
theorem mj_okI {ρ : mj_P} (x : Int) : mj_ok ρ (mI x) := fun c h => by cases h
theorem mj_okZ {ρ : mj_P} (x : Int) : mj_ok ρ (mZ x) := fun c h => by cases h
theorem mj_okN {ρ : mj_P} : mj_ok ρ (mR none) := fun c h => by cases h
theorem mj_okR {G : mj_G} {ρ : mj_P} {A : mj_M} {H : Heap} (h : mj_H G ρ A H) {r : Option Int} (hr : ∀ q, r = some q → gS A q ≠ none) : mj_ok ρ (mR r) := by
  intro c hc
  cases hc
  have h1 := h.1 c
  unfold mj_at at h1
  cases hs : gS A c with
  | none => exact absurd hs (hr c rfl)
  | some x =>
    rw [hs] at h1
    obtain ⟨a, h2, -⟩ := h1
    rw [h2]; exact fun z => by cases z
theorem mj_okS {G : mj_G} {ρ : mj_P} {A : mj_M} {H : Heap} (h : mj_H G ρ A H) {c : Int} (hr : mj_ok ρ (mR (some c))) : gS A c ≠ none := by
  intro hs
  have h1 := h.1 c
  unfold mj_at at h1
  rw [hs] at h1
  exact hr c rfl h1
theorem mj_H.sh {G : mj_G} {ρ : mj_P} {A : mj_M} {H : Heap} (h : mj_H G ρ A H) {c : Int} {x : Nat ⊕ (Nat × Int)} (hs : gS A c = some x) : ∃ a, ρ c = some a ∧ G.2.1 ≤ a ∧ mj_ce G ρ A H c a x := by
  have h1 := h.1 c
  unfold mj_at at h1
  rw [hs] at h1
  exact h1
theorem mj_ce.lt {G : mj_G} {ρ : mj_P} {A : mj_M} {H : Heap} {c : Int} {a : Nat} {x : Nat ⊕ (Nat × Int)} (h : mj_ce G ρ A H c a x) : a < H.size := by
  rcases x with ci | q
  · obtain ⟨r, -, cell, h1, -⟩ := h
    exact (Array.getElem?_eq_some_iff.mp h1).1
  · exact (Array.getElem?_eq_some_iff.mp h.2.2.2).1
/-- another memory that agrees at the code, in a heap that agrees at the cell -/
theorem mj_ce.kept {G : mj_G} {ρ ρ' : mj_P} {A A' : mj_M} {H H' : Heap} {c : Int} {a : Nat} {x : Nat ⊕ (Nat × Int)} (h : mj_ce G ρ A H c a x) (hq : H'[a]? = H[a]?) (hI : ∀ i, gI A' c i = gI A c i) (hP : ∀ i, mj_c ρ' (mR (gP A' c i)) = mj_c ρ (mR (gP A c i))) : mj_ce G ρ' A' H' c a x := by
  rcases x with ci | q
  · obtain ⟨r, h1, h2⟩ := h
    refine ⟨r, h1, (h2.kept hq).to fun k _ => ?_⟩
    unfold mj_fv
    rw [hP, hI]
    rfl
  · obtain ⟨h1, h2, h3, h4⟩ := h
    refine ⟨h1, h2, h3, ?_⟩
    rw [hq, h4]
    congr 2
    funext j
    unfold mj_av
    rw [hP, hI]
    rfl
/-- a store at one code -/
theorem mj_H.put {G : mj_G} {ρ : mj_P} {A A' : mj_M} {H H' : Heap} (h : mj_H G ρ A H) {c0 : Int} {a0 : Nat} {x : Nat ⊕ (Nat × Int)} (hs : gS A c0 = some x) (ha : ρ c0 = some a0) (hce : mj_ce G ρ A' H' c0 a0 x) (hq : ∀ q, q ≠ a0 → H'[q]? = H[q]?)
    (hS : ∀ c, gS A' c = gS A c) (hI : ∀ c i, c ≠ c0 → gI A' c i = gI A c i) (hP : ∀ c i, c ≠ c0 → gP A' c i = gP A c i) (hcl : ∀ i q, gP A' c0 i = some q → gS A q ≠ none) (hr : ∀ i, r32 (gI A' c0 i)) : mj_H G ρ A' H' := by
  refine ⟨fun c => ?_, h.2.1, fun c i q hc hp => ?_, fun c i => ?_⟩
  · unfold mj_at
    rw [hS]
    have h1 := h.1 c
    unfold mj_at at h1
    cases hc : gS A c with
    | none => rw [hc] at h1; exact h1
    | some y =>
      rw [hc] at h1
      obtain ⟨a, g1, g2, g3⟩ := h1
      refine ⟨a, g1, g2, ?_⟩
      by_cases hcc : c = c0
      · subst hcc
        cases hs.symm.trans hc
        cases ha.symm.trans g1
        exact hce
      · refine g3.kept (hq a fun e => hcc (h.2.1 c c0 a0 (by rw [← e]; exact g1) ha)) (fun i => hI c i hcc) fun i => by rw [hP c i hcc]
  · rw [hS] at hc ⊢
    by_cases hcc : c = c0
    · subst hcc; exact hcl i q hp
    · rw [hP c i hcc] at hp; exact h.2.2.1 c i q hc hp
  · by_cases hcc : c = c0
    · subst hcc; exact hr i
    · rw [hI c i hcc]; exact h.2.2.2 c i
def mj_up (ρ : mj_P) (c : Int) (a : Nat) : mj_P := fun c' => if c' = c then some a else ρ c'
theorem mj_up_ext {ρ : mj_P} {c : Int} {a : Nat} (h : ρ c = none) : mj_ext ρ (mj_up ρ c a) := by
  intro c' a' h'
  unfold mj_up
  rw [if_neg]
  · exact h'
  · intro e; rw [e, h] at h'; cases h'
/-- a new code -/
theorem mj_H.new {G : mj_G} {ρ : mj_P} {A : mj_M} {H H' : Heap} (h : mj_H G ρ A H) {c0 : Int} {x : Nat ⊕ (Nat × Int)} (hs : gS A c0 = none) (hz : G.2.1 ≤ H.size) (hce : mj_ce G (mj_up ρ c0 H.size) (sN A c0 x) H' c0 H.size x) (hq : ∀ q, q < H.size → H'[q]? = H[q]?) :
    mj_H G (mj_up ρ c0 H.size) (sN A c0 x) H' ∧ mj_ext ρ (mj_up ρ c0 H.size) := by
  have h0 : ρ c0 = none := by
    have h1 := h.1 c0
    unfold mj_at at h1
    rw [hs] at h1
    exact h1
  have hlt : ∀ c a, ρ c = some a → a < H.size := by
    intro c a hc
    have h1 := h.1 c
    unfold mj_at at h1
    cases hcs : gS A c with
    | none => rw [hcs] at h1; rw [h1] at hc; cases hc
    | some y =>
      rw [hcs] at h1
      obtain ⟨a', g1, -, g3⟩ := h1
      cases hc.symm.trans g1
      exact g3.lt
  have hext := mj_up_ext (a := H.size) h0
  refine ⟨⟨fun c => ?_, fun c c' a hc hc' => ?_, fun c i q hc hp => ?_, fun c i => ?_⟩, hext⟩
  · unfold mj_at
    rw [gS_sN]
    by_cases hcc : c = c0
    · subst hcc
      rw [if_pos rfl]
      exact ⟨H.size, by simp [mj_up], hz, hce⟩
    · rw [if_neg hcc]
      have h1 := h.1 c
      unfold mj_at at h1
      cases hcs : gS A c with
      | none =>
        rw [hcs] at h1
        show mj_up ρ c0 H.size c = none
        unfold mj_up
        rw [if_neg hcc]; exact h1
      | some y =>
        rw [hcs] at h1
        obtain ⟨a, g1, g2, g3⟩ := h1
        refine ⟨a, hext c a g1, g2, g3.kept (hq a g3.lt) (fun i => by rw [gI_sN, if_neg hcc]) fun i => ?_⟩
        rw [gP_sN, if_neg hcc]
        exact mj_c_ext (mj_okR h fun q hq2 => h.2.2.1 c i q (by rw [hcs]; exact fun z => by cases z) hq2) hext
  · unfold mj_up at hc hc'
    by_cases e : c = c0 <;> by_cases e' : c' = c0
    · rw [e, e']
    · rw [if_pos e] at hc; rw [if_neg e'] at hc'
      cases hc
      exact absurd (hlt c' _ hc') (Nat.lt_irrefl _)
    · rw [if_neg e] at hc; rw [if_pos e'] at hc'
      cases hc'
      exact absurd (hlt c _ hc) (Nat.lt_irrefl _)
    · rw [if_neg e] at hc; rw [if_neg e'] at hc'
      exact h.2.1 c c' a hc hc'
  · rw [gS_sN] at hc ⊢
    rw [gP_sN] at hp
    by_cases e : c = c0
    · rw [if_pos e] at hp; cases hp
    · rw [if_neg e] at hp hc
      by_cases e' : q = c0
      · rw [if_pos e']; exact fun z => by cases z
      · rw [if_neg e']; exact h.2.2.1 c i q hc hp
  · rw [gI_sN]
    by_cases e : c = c0
    · rw [if_pos e]; exact r32_0
    · rw [if_neg e]; exact h.2.2.2 c i
end MJA
end
section
section MJN
theorem mj_div {x y : Int} (hx : r32 x) (hy : r32 y) : Int32.ofInt (x.tdiv y) = Int32.ofInt x / Int32.ofInt y := Int32.ofInt_tdiv hx.1 (by have := hx.2; show x ≤ 2147483647; omega) hy.1 (by have := hy.2; show y ≤ 2147483647; omega)
theorem mj_rem {x y : Int} (hx : r32 x) (hy : r32 y) : Int32.ofInt x - Int32.ofInt x / Int32.ofInt y * Int32.ofInt y = Int32.ofInt (x.tmod y) := by
  rw [← mj_div hx hy, ← Int32.ofInt_mul, ← Int32.ofInt_sub]
  congr 1
  have := Int.tmod_def x y
  rw [Int.mul_comm] at this
  omega
theorem mj_i2l {x : Int} (hx : r32 x) : (Int32.ofInt x).toInt64 = Int64.ofInt x := Int32.toInt64_ofInt hx.1 (by have := hx.2; show x ≤ 2147483647; omega)
theorem mj_shl1_aux : ∀ n, n < 31 → (Int32.ofInt 1 <<< (Int32.ofInt (n : Nat) &&& 31)) = Int32.ofInt (2 ^ n) := by decide +kernel
theorem mj_shl1 {y : Int} (h0 : 0 ≤ y) (h1 : y < 31) : (Int32.ofInt 1 <<< (Int32.ofInt y &&& 31)) = Int32.ofInt (2 ^ y.toNat) := by
  obtain ⟨n, rfl⟩ : ∃ n : Nat, y = (n : Int) := ⟨y.toNat, by omega⟩
  exact mj_shl1_aux n (by omega)
theorem mj_shr_aux : ∀ n, n < 31 → ((Int32.ofInt (n : Nat) &&& 31).toBitVec.smod 32).toNat = n := by decide +kernel
theorem mj_shr {x y : Int} (hx : r32 x) (h0 : 0 ≤ y) (h1 : y < 31) : (Int32.ofInt x >>> (Int32.ofInt y &&& 31)) = Int32.ofInt (x / 2 ^ y.toNat) := by
  obtain ⟨n, rfl⟩ : ∃ n : Nat, y = (n : Int) := ⟨y.toNat, by omega⟩
  have h := pk_shr (Int32.ofInt x) (Int32.ofInt (n : Nat) &&& 31) n (mj_shr_aux n (by omega))
  rw [r32_toInt hx] at h
  rw [← Int32.toInt_inj, h, Int.shiftRight_eq_div_pow]
  have hb : r32 (x / ((2 ^ n : Nat) : Int)) := by
    have hp : (0 : Int) < ((2 ^ n : Nat) : Int) := by exact_mod_cast Nat.two_pow_pos n
    refine ⟨?_, ?_⟩
    · have h1 : (-2147483648 : Int) ≤ x := hx.1
      exact Int.le_ediv_of_mul_le hp (by
        have : ((2 ^ n : Nat) : Int) ≥ 1 := by omega
        have h2 : (-2147483648 : Int) * ((2 ^ n : Nat) : Int) ≤ (-2147483648) * 1 := Int.mul_le_mul_of_nonpos_left (by decide) this
        omega)
    · exact Int.ediv_lt_of_lt_mul hp (by
        have : ((2 ^ n : Nat) : Int) ≥ 1 := by omega
        have h2 : (2147483648 : Int) * 1 ≤ 2147483648 * ((2 ^ n : Nat) : Int) := Int.mul_le_mul_of_nonneg_left this (by decide)
        have := hx.2
        omega)
  have e : ((n : Nat) : Int).toNat = n := by omega
  rw [e]
  have e2 : (2 ^ n : Int) = ((2 ^ n : Nat) : Int) := by simp
  rw [e2, r32_toInt hb]
theorem mj_or {x y : Int} (hx : 0 ≤ x) (hy : 0 ≤ y) : Int32.ofInt x ||| Int32.ofInt y = Int32.ofInt ((x.toNat ||| y.toNat : Nat) : Int) := by
  obtain ⟨a, rfl⟩ : ∃ n : Nat, x = (n : Int) := ⟨x.toNat, by omega⟩
  obtain ⟨b, rfl⟩ : ∃ n : Nat, y = (n : Int) := ⟨y.toNat, by omega⟩
  rw [Int32.ofInt_eq_ofNat, Int32.ofInt_eq_ofNat, Int32.ofInt_eq_ofNat]
  simp only [Int.toNat_natCast]
  apply Int32.toBitVec.inj
  simp [BitVec.ofNat_or]
theorem mj_bv {x : Int} (a : Nat) (h : (x % 4294967296).toNat = a) : Int32.ofInt x = Int32.ofNat a := by
  subst h
  apply Int32.toBitVec.inj
  apply BitVec.eq_of_toNat_eq
  have : (x % 4294967296).toNat < 4294967296 := by
    have := Int.emod_lt_of_pos x (show (0 : Int) < 4294967296 by decide)
    have := Int.emod_nonneg x (show (4294967296 : Int) ≠ 0 by decide)
    omega
  simp [BitVec.toNat_ofInt]
  omega
theorem mj_andm {x : Int} (k : Nat) (hk : k ≤ 30) : Int32.ofInt x &&& Int32.ofNat (2 ^ k - 1) = Int32.ofInt (x % 2 ^ k) := by
  rw [mj_bv (x := x) _ rfl]
  have h0 : 0 ≤ x % 2 ^ k := Int.emod_nonneg _ (by have := Int.pow_pos (n := 2) (m := k) (by decide); omega)
  obtain ⟨b, hb⟩ : ∃ n : Nat, x % 2 ^ k = (n : Int) := ⟨(x % 2 ^ k).toNat, by omega⟩
  rw [hb, Int32.ofInt_eq_ofNat]
  apply Int32.toBitVec.inj
  apply BitVec.eq_of_toNat_eq
  have hm : (x % 4294967296).toNat % 2 ^ k = b := by
    have hd : ((2 ^ k : Nat) : Int) ∣ 4294967296 := by
      refine ⟨((2 ^ (32 - k) : Nat) : Int), ?_⟩
      have h3 : 2 ^ k * 2 ^ (32 - k) = 4294967296 := by rw [← Nat.pow_add, show k + (32 - k) = 32 by omega]
      rw [← Int.natCast_mul, h3]; rfl
    have h1 : (x % 4294967296) % ((2 ^ k : Nat) : Int) = x % ((2 ^ k : Nat) : Int) := Int.emod_emod_of_dvd x hd
    have e2 : (2 ^ k : Int) = ((2 ^ k : Nat) : Int) := by simp
    rw [e2] at hb
    rw [hb] at h1
    have h2 : 0 ≤ x % 4294967296 := Int.emod_nonneg _ (by decide)
    obtain ⟨d, hd2⟩ : ∃ n : Nat, x % 4294967296 = (n : Int) := ⟨(x % 4294967296).toNat, by omega⟩
    rw [hd2] at h1 ⊢
    rw [Int.toNat_natCast]
    exact_mod_cast h1
  have hlt : (x % 4294967296).toNat < 4294967296 := by
    have := Int.emod_lt_of_pos x (show (0 : Int) < 4294967296 by decide)
    have := Int.emod_nonneg x (show (4294967296 : Int) ≠ 0 by decide)
    omega
  have hp : 2 ^ k ≤ 2 ^ 30 := Nat.pow_le_pow_right (by decide) hk
  have hp0 : 0 < 2 ^ k := Nat.two_pow_pos k
  have hbl : b < 2 ^ k := by rw [← hm]; exact Nat.mod_lt _ hp0
  simp only [Int32.toBitVec_and, Int32.toBitVec_ofNat', BitVec.toNat_and, BitVec.toNat_ofNat]
  rw [Nat.mod_eq_of_lt (a := (x % 4294967296).toNat) (by omega), Nat.mod_eq_of_lt (a := 2 ^ k - 1) (by omega), Nat.mod_eq_of_lt (a := b) (by omega), Nat.and_two_pow_sub_one_eq_mod, hm]
theorem mj_and1 {x : Int} : Int32.ofInt x &&& Int32.ofInt 1 = Int32.ofInt (x % 2) := mj_andm (x := x) 1 (by decide)
theorem mj_and63 {x : Int} : Int32.ofInt x &&& Int32.ofInt 63 = Int32.ofInt (x % 64) := mj_andm (x := x) 6 (by decide)
theorem mj_andB {x y : Int} (hx : x = 0 ∨ x = 1) (hy : y = 0 ∨ y = 1) : Int32.ofInt x &&& Int32.ofInt y = Int32.ofInt (if x = 1 ∧ y = 1 then 1 else 0) := by
  rcases hx with rfl | rfl <;> rcases hy with rfl | rfl <;> decide
theorem mj_orB {x y : Int} (hx : x = 0 ∨ x = 1) (hy : y = 0 ∨ y = 1) : Int32.ofInt x ||| Int32.ofInt y = Int32.ofInt (if x = 1 ∨ y = 1 then 1 else 0) := by
  rcases hx with rfl | rfl <;> rcases hy with rfl | rfl <;> decide
theorem mj_lcmp {x y : Int} (hx : r32 x) (hy : r32 y) : lg_cmp (Int64.ofInt x) (Int64.ofInt y) = Int32.ofInt (if y < x then 1 else if x = y then 0 else -1) := by
  have ex : (Int64.ofInt x).toInt = x := Int64.toInt_ofInt_of_le (by have := hx.1; omega) (by have := hx.2; omega)
  have ey : (Int64.ofInt y).toInt = y := Int64.toInt_ofInt_of_le (by have := hy.1; omega) (by have := hy.2; omega)
  unfold lg_cmp
  simp only [gt_iff_lt, Int64.lt_iff_toInt_lt, ← Int64.toInt_inj, ex, ey]
  by_cases h1 : y < x
  · simp [h1]
  · by_cases h2 : x = y
    · simp [h2]
    · simp [h1, h2]
end MJN
/-- the texts of the exceptions: class, entry, text -/
def mj_str : List (String × Nat × String) := [("CelHouse", 335, "there are 16 drawings"), ("CelHouse", 337, "no such drawing"), ("CelHouse", 78, "n is 0 to d, d is 1 to 24"), ("CelHouse", 345, "no such point"), ("CelHouse", 347, "no such colour name"), ("CelHouse", 349, "a name is 0 to 7"), ("CelHouse", 339, "an in-between, or approved"), ("CelHouse", 133, "it has 6 paints"), ("CelHouse", 150, "it is so already"), ("CelHouse", 351, "no such palette"), ("CelHouse", 159, "a colour is 1 to 99"), ("CelHouse", 161, "a scene has 1 to 24 frames"), ("CelHouse", 166, "there are 6 scenes"), ("CelHouse", 353, "no such scene"), ("CelHouse", 355, "no such level"), ("CelHouse", 357, "no such frame"), ("CelHouse", 179, "no drawing, blank, hold or cycle"), ("CelHouse", 359, "no such sound"), ("CelHouse", 361, "no such peg"), ("CelHouse", 206, "there are 6 pegs"), ("CelHouse", 211, "a frame is 0 to 23"), ("CelHouse", 213, "x and y are -20 to 20"), ("CelHouse", 221, "6 others were told"), ("CelHouse", 227, "a depth is 1 to 4"), ("CelHouse", 249, "a speed is 1 to 9"), ("CelHouse", 254, "there are 4 hands"), ("CelHouse", 259, "the film has 10 scenes"), ("CelHouse", 278, "what is 0 to 5"), ("CelHouse", 318, "no such hand"), ("CelHouse", 333, "no such frame of the film")]
/-- exceptions that are none of the others -/
def mj_nc : List (String × String) := [("java/lang/IndexOutOfBoundsException", "java/lang/IllegalArgumentException"), ("java/lang/IndexOutOfBoundsException", "java/lang/IllegalStateException"), ("java/lang/IllegalArgumentException", "java/lang/IndexOutOfBoundsException"), ("java/lang/IllegalArgumentException", "java/lang/IllegalStateException"), ("java/lang/IllegalStateException", "java/lang/IndexOutOfBoundsException"), ("java/lang/IllegalStateException", "java/lang/IllegalArgumentException")]
def mj_on (t : Nat) : String := if t = 3 then "CelHouse$Drawing" else if t = 4 then "CelHouse$Peg" else if t = 5 then "CelHouse$Scene" else "CelHouse$Stroke"
/-! THE SMALL MACHINE, 2: what a frame knows, mj_X, and a rule for each instruction that leaves the heap alone -/
section MJB
/-- the locals, those that are known -/
def mj_l (ρ : mj_P) : Nat → List (Option mj_V) → List (Nat × Value)
  | _, [] => []
  | i, none :: t => mj_l ρ (i + 1) t
  | i, some v :: t => (i, mj_c ρ v) :: mj_l ρ (i + 1) t
theorem mj_l_mem {ρ : mj_P} {j : Nat} {w : Value} : ∀ (L : List (Option mj_V)) (i : Nat), (j, w) ∈ mj_l ρ i L ↔ ∃ (k : Nat) (v : mj_V), L[k]? = some (some v) ∧ j = i + k ∧ w = mj_c ρ v
  | [], i => by simp [mj_l]
  | none :: t, i => by
    rw [mj_l, mj_l_mem t (i + 1)]
    constructor
    · rintro ⟨k, v, h1, h2, h3⟩
      exact ⟨k + 1, v, by simpa using h1, by omega, h3⟩
    · rintro ⟨k, v, h1, h2, h3⟩
      cases k with
      | zero => simp at h1
      | succ k => exact ⟨k, v, by simpa using h1, by omega, h3⟩
  | some u :: t, i => by
    rw [mj_l, List.mem_cons, mj_l_mem t (i + 1)]
    constructor
    · rintro (h | ⟨k, v, h1, h2, h3⟩)
      · cases h
        exact ⟨0, u, by simp, by omega, rfl⟩
      · exact ⟨k + 1, v, by simpa using h1, by omega, h3⟩
    · rintro ⟨k, v, h1, h2, h3⟩
      cases k with
      | zero =>
        simp at h1
        subst h1
        exact Or.inl (by rw [h2, h3]; rfl)
      | succ k => exact Or.inr ⟨k, v, by simpa using h1, by omega, h3⟩
def mj_L (ρ : mj_P) (nL : Nat) (L : List (Option mj_V)) (ls : Array Slot) : Prop := lv_has ls nL (mj_l ρ 0 L) ∧ L.length = nL ∧ ∀ (k : Nat) (v : mj_V), L[k]? = some (some v) → mj_ok ρ v ∧ ∀ z, v ≠ mZ z
theorem mj_cat {ρ : mj_P} {v : mj_V} (h : ∀ z, v ≠ mZ z) : (mj_c ρ v).category = 1 := by
  rcases v with x | r | x
  · rfl
  · cases r <;> rfl
  · exact absurd rfl (h x)
theorem mj_L.at {ρ : mj_P} {nL : Nat} {L : List (Option mj_V)} {ls : Array Slot} (h : mj_L ρ nL L ls) {i : Nat} {v : mj_V} (hi : L[i]? = some (some v)) : ls[i]? = some (.val (mj_c ρ v)) :=
  h.1.2.2 (i, mj_c ρ v) ((mj_l_mem L 0).mpr ⟨i, v, hi, by omega, rfl⟩)
theorem mj_L.set {ρ : mj_P} {nL : Nat} {L : List (Option mj_V)} {ls ls' : Array Slot} (h : mj_L ρ nL L ls) {i : Nat} {v : mj_V} (hv : mj_ok ρ v) (hz : ∀ z, v ≠ mZ z) (h' : lv_has ls' nL ((i, mj_c ρ v) :: (mj_l ρ 0 L).filter (fun q => !(q.1 == i) && !(q.1 + 1 == i && q.2.category == 2)))) : mj_L ρ nL (L.set i (some v)) ls' := by
  have key : ∀ (k : Nat) (u : mj_V), (L.set i (some v))[k]? = some (some u) → (k = i ∧ u = v) ∨ (k ≠ i ∧ L[k]? = some (some u)) := by
    intro k u hk
    rw [List.getElem?_set] at hk
    by_cases e : i = k
    · rw [if_pos e] at hk
      by_cases e2 : i < L.length
      · simp only [e2, if_true] at hk
        exact Or.inl ⟨e.symm, (Option.some.inj (Option.some.inj hk)).symm⟩
      · simp [e2] at hk
    · rw [if_neg e] at hk
      exact Or.inr ⟨fun z => e z.symm, hk⟩
  refine ⟨⟨h'.1, h'.2.1, fun q hq => ?_⟩, by rw [List.length_set]; exact h.2.1, fun k u hk => ?_⟩
  · obtain ⟨k, u, h1, h2, h3⟩ := (mj_l_mem _ 0).mp (show (q.1, q.2) ∈ _ from hq)
    have hk0 : q.1 = k := by omega
    rcases key k u h1 with ⟨e1, e2⟩ | ⟨e1, e2⟩
    · subst e2
      rw [hk0, h3, e1]
      exact h'.2.2 (i, mj_c ρ u) List.mem_cons_self
    · rw [hk0, h3]
      refine h'.2.2 (k, mj_c ρ u) (List.mem_cons_of_mem _ (List.mem_filter.mpr ⟨(mj_l_mem L 0).mpr ⟨k, u, e2, by omega, rfl⟩, ?_⟩))
      have hc := mj_cat (ρ := ρ) (h.2.2 k u e2).2
      simp [e1, hc]
  · rcases key k u hk with ⟨-, e2⟩ | ⟨-, e2⟩
    · subst e2; exact ⟨hv, hz⟩
    · exact h.2.2 k u e2
theorem mj_L.ext {ρ ρ' : mj_P} {nL : Nat} {L : List (Option mj_V)} {ls : Array Slot} (h : mj_L ρ nL L ls) (he : mj_ext ρ ρ') : mj_L ρ' nL L ls := by
  refine ⟨⟨h.1.1, h.1.2.1, fun q hq => ?_⟩, h.2.1, fun k u hk => ⟨(h.2.2 k u hk).1.ext he, (h.2.2 k u hk).2⟩⟩
  obtain ⟨k, u, h1, h2, h3⟩ := (mj_l_mem _ 0).mp (show (q.1, q.2) ∈ _ from hq)
  have hk0 : q.1 = k := by omega
  rw [hk0, h3, mj_c_ext (h.2.2 k u h1).1 he]
  exact h.at h1
/-- less is known -/
theorem mj_L.drop {ρ : mj_P} {nL : Nat} {L L' : List (Option mj_V)} {ls : Array Slot} (h : mj_L ρ nL L ls) (hl : L'.length = L.length) (hd : ∀ (k : Nat) (v : mj_V), L'[k]? = some (some v) → L[k]? = some (some v)) : mj_L ρ nL L' ls := by
  refine ⟨⟨h.1.1, h.1.2.1, fun q hq => ?_⟩, hl.trans h.2.1, fun k u hk => h.2.2 k u (hd k u hk)⟩
  obtain ⟨k, u, h1, h2, h3⟩ := (mj_l_mem _ 0).mp (show (q.1, q.2) ∈ _ from hq)
  have hk0 : q.1 = k := by omega
  rw [hk0, h3]
  exact h.at (hd k u h1)
/-- a method: own class, name, descriptor; code, locals, what it returns, its room, its handlers -/
abbrev mj_I : Type := (String × String × String) × ByteArray × Nat × Option FieldType × Room × List (Nat × Nat × Nat × Nat)
abbrev mi_own (M : mj_I) : String := M.1.1
abbrev mi_name (M : mj_I) : String := M.1.2.1
abbrev mi_desc (M : mj_I) : String := M.1.2.2
abbrev mi_y (M : mj_I) : MethodName := ⟨M.1.1, M.1.2.1, M.1.2.2⟩
abbrev mi_code (M : mj_I) : ByteArray := M.2.1
abbrev mi_ml (M : mj_I) : Nat := M.2.2.1
abbrev mi_ret (M : mj_I) : Option FieldType := M.2.2.2.1
abbrev mi_rm (M : mj_I) : Room := M.2.2.2.2.1
abbrev mi_hh (M : mj_I) : List (Nat × Nat × Nat × Nat) := M.2.2.2.2.2
/-- words that are no good words, but stay true all the same -/
def mj_xw (w : Cond) : Bool := match w with
  | .castable _ _ => true
  | .declares _ => true
  | .methodLinkNest _ _ _ _ => true
  | _ => false
/-- what every method's start knows: classes, arrays, statics, texts -/
def mj_B (G : mj_G) (U : State) : Prop :=
  va_K G.2.2.1 mj_cl [] U ∧ (∀ t, t < 7 → ArrOfT U (G.2.2.2 t) (mj_ty t) ∧ va_RA U (G.2.2.2 t) (mj_ty t)) ∧ vx_Zq Bundle.tN "UNASSIGNED_STACK" Bundle.steD (fun q => G.2.1 ≤ q) U U.heap ∧ vx_Zq Bundle.tN "SUPPRESSED_SENTINEL" Bundle.listD (fun q => G.2.1 ≤ q) U U.heap ∧
  (∀ q ∈ mj_str, ∃ sa, vk_R q.1 q.2.1 q.2.2 sa U) ∧ (∀ w ∈ lw_tbl, mj_xw w = true → va_Nw w U) ∧ (∀ q ∈ mj_nc, va_Nc q.1 q.2 U) ∧ (∀ t, 3 ≤ t → t < 7 → va_AO (mj_on t) U) ∧ G.2.1 ≤ U.heap.size ∧ G.1.stackTraces = false
theorem mj_B.moved {G : mj_G} {s U : State} {H : Heap} {locs : List Loc} (h : mj_B G s) (hW : s.WarmedH U.vm) (hU : U.heap = H) (hS : va_S (fun q => G.2.1 ≤ q) s.heap H locs) : mj_B G U := by
  obtain ⟨h1, h2, h3, h4, h5, h6, h7, h8, h9, h10⟩ := h
  refine ⟨va_K.moved hW.alike h1, fun t ht => ⟨arrOfT_moved hW.alike (h2 t ht).1, (h2 t ht).2.moved hW.alike⟩, ?_, ?_, fun q hq => ?_, fun w hw hx => ?_, fun q hq => va_Nc.moved hW.alike (h7 q hq), fun t h3 h7 => va_AO.moved hW.alike (h8 t h3 h7), ?_, h10⟩
  · rw [hU]; exact vx_Zq.moved hW.alike (h3.kept hS.2.1)
  · rw [hU]; exact vx_Zq.moved hW.alike (h4.kept hS.2.1)
  · obtain ⟨sa, h⟩ := h5 q hq
    exact ⟨sa, vk_R.warm hW h⟩
  · have hz := h6 w hw hx
    cases w <;> first | exact va_Nw.warmC hW hz | exact va_Nw.warmD hW hz | exact va_Nw.warmM hW hz | exact absurd hx (by simp [mj_xw])
  · rw [hU]; exact Nat.le_trans h9 hS.1
theorem mj_B.same {G : mj_G} {s U : State} (h : mj_B G s) (hv : U.vm = s.vm) (hh : U.heap = s.heap) : mj_B G U := by
  refine h.moved (H := U.heap) (locs := []) (by rw [hv]; exact State.WarmedH.refl s) rfl ?_
  rw [hh]; exact va_S.rf
def mj_Fr (G : mj_G) (M : mj_I) (p : Program) (s : State) (m : MethodId) (args : Array Value) (meth : Method) (c : Code) : Prop :=
  p.tables.exec = Jvm.exec ∧ c.code = mi_code M ∧ c.maxLocals = mi_ml M ∧ s.vm.findClass (mi_own M) = some m.cls ∧ meth.sig.returnType = mi_ret M ∧ meth.locks = false ∧ meth.name = mi_name M ∧ c.exceptionTable.toList = tableOf (mi_hh M) ∧ (∀ w ∈ mj_TB, w.before args s = true) ∧ mj_B G s
/-- where the walk stands: kc cells and ks slots may still be made -/
def mj_St (G : mj_G) (M : mj_I) (ρ0 ρ : mj_P) (A : mj_M) (kc ks : Nat) (L : List (Option mj_V)) (st : List mj_V) (s : State) (H : Heap) (locs : List Loc) (ls : Array Slot) (cells slots : Nat) : Prop :=
  mj_ext ρ0 ρ ∧ cells + kc ≤ (mi_rm M).cells ∧ slots + ks ≤ (mi_rm M).slots ∧ mj_H G ρ A H ∧ va_S (fun q => G.2.1 ≤ q) s.heap H locs ∧ mj_L ρ (mi_ml M) L ls ∧ ∀ v ∈ st, mj_ok ρ v
abbrev mj_Q : Type := mj_P → Array Value → State → List Frame → State → Prop
def mj_X (G : mj_G) (M : mj_I) (Q : mj_Q) (A : mj_M) (kc ks : Nat) (pc : Nat) (L : List (Option mj_V)) (st : List mj_V) : Prop :=
  ∀ (p : Program) (e : Env) (s : State) (m : MethodId) (args : Array Value) (below : List Frame) (meth : Method) (c : Code) (H : Heap) (locs : List Loc) (ls : Array Slot) (ρ0 ρ : mj_P) (cells slots : Nat),
    mj_Fr G M p s m args meth c → mj_St G M ρ0 ρ A kc ks L st s H locs ls cells slots →
    W p G.1 e (mi_rm M) s m args below meth c H locs cells slots (Q ρ0 args s below) (F0 m pc ls (st.map (mj_c ρ)))
section R1
variable {G : mj_G} {M : mj_I} {Q : mj_Q} {A : mj_M} {kc ks pc : Nat} {L : List (Option mj_V)} {st : List mj_V}
theorem mj_St.to1 {ρ0 ρ : mj_P} {st st' : List mj_V} {s : State} {H : Heap} {locs : List Loc} {ls : Array Slot} {cells slots : Nat} (S : mj_St G M ρ0 ρ A kc ks L st s H locs ls cells slots) (h : (∀ v ∈ st, mj_ok ρ v) → ∀ v ∈ st', mj_ok ρ v) : mj_St G M ρ0 ρ A kc ks L st' s H locs ls cells slots :=
  ⟨S.1, S.2.1, S.2.2.1, S.2.2.2.1, S.2.2.2.2.1, S.2.2.2.2.2.1, h S.2.2.2.2.2.2⟩
theorem mj_St.to2 {ρ0 ρ : mj_P} {st st' : List mj_V} {L' : List (Option mj_V)} {s : State} {H : Heap} {locs : List Loc} {ls ls' : Array Slot} {cells slots : Nat} (S : mj_St G M ρ0 ρ A kc ks L st s H locs ls cells slots) (hL : mj_L ρ (mi_ml M) L' ls') (h : (∀ v ∈ st, mj_ok ρ v) → ∀ v ∈ st', mj_ok ρ v) : mj_St G M ρ0 ρ A kc ks L' st' s H locs ls' cells slots :=
  ⟨S.1, S.2.1, S.2.2.1, S.2.2.2.1, S.2.2.2.2.1, hL, h S.2.2.2.2.2.2⟩
/-- all numbers of the memory are ints -/
def mj_R (A : mj_M) : Prop := ∀ c i, r32 (gI A c i)
theorem mx_R (k : mj_R A → mj_X G M Q A kc ks pc L st) : mj_X G M Q A kc ks pc L st := fun p e s m args below meth c H locs ls ρ0 ρ cells slots F S => k S.2.2.2.1.2.2.2 p e s m args below meth c H locs ls ρ0 ρ cells slots F S
/-- what a reference holds is a cell -/
def mj_Cl (A : mj_M) : Prop := ∀ c i q, gS A c ≠ none → gP A c i = some q → gS A q ≠ none
theorem mx_Cl (k : mj_Cl A → mj_X G M Q A kc ks pc L st) : mj_X G M Q A kc ks pc L st := fun p e s m args below meth c H locs ls ρ0 ρ cells slots F S => k S.2.2.2.1.2.2.1 p e s m args below meth c H locs ls ρ0 ρ cells slots F S
/-- fewer cells may still be made -/
theorem mx_less {kc' ks' : Nat} (h1 : kc' ≤ kc) (h2 : ks' ≤ ks) (k : mj_X G M Q A kc' ks' pc L st) : mj_X G M Q A kc ks pc L st := fun p e s m args below meth c H locs ls ρ0 ρ cells slots F S =>
  k p e s m args below meth c H locs ls ρ0 ρ cells slots F ⟨S.1, Nat.le_trans (Nat.add_le_add_left h1 _) S.2.1, Nat.le_trans (Nat.add_le_add_left h2 _) S.2.2.1, S.2.2.2⟩
/-- less of the locals is known -/
theorem mx_drop {L' : List (Option mj_V)} (hl : L'.length = L.length) (hd : ∀ (k : Nat) (v : mj_V), L'[k]? = some (some v) → L[k]? = some (some v)) (k : mj_X G M Q A kc ks pc L' st) : mj_X G M Q A kc ks pc L st := fun p e s m args below meth c H locs ls ρ0 ρ cells slots F S =>
  k p e s m args below meth c H locs ls ρ0 ρ cells slots F (S.to2 (S.2.2.2.2.2.1.drop hl hd) id)
theorem mx_iconst {n : Int} (hd : decode (mi_code M) pc = .ok (.iconst n, 1)) (k : mj_X G M Q A kc ks (pc + 1) L (mI n :: st)) : mj_X G M Q A kc ks pc L (st) := by
  intro p e s m args below meth c H locs ls ρ0 ρ cells slots F S
  refine lv_iconst (v := Int32.ofInt n) F.1 F.2.1 hd rfl ?_
  exact k p e s m args below meth c H locs ls ρ0 ρ cells slots F (S.to1 (fun h => List.forall_mem_cons.mpr ⟨mj_okI _, h⟩))
theorem mx_bipush {n : Int} (hd : decode (mi_code M) pc = .ok (.bipush n, 2)) (hv : (Int8.ofInt n).toInt32 = Int32.ofInt n) (k : mj_X G M Q A kc ks (pc + 2) L (mI n :: st)) : mj_X G M Q A kc ks pc L (st) := by
  intro p e s m args below meth c H locs ls ρ0 ρ cells slots F S
  refine lv_bipush (v := Int32.ofInt n) F.1 F.2.1 hd hv ?_
  exact k p e s m args below meth c H locs ls ρ0 ρ cells slots F (S.to1 (fun h => List.forall_mem_cons.mpr ⟨mj_okI _, h⟩))
theorem mx_sipush {n : Int} (hd : decode (mi_code M) pc = .ok (.sipush n, 3)) (hv : (Int16.ofInt n).toInt32 = Int32.ofInt n) (k : mj_X G M Q A kc ks (pc + 3) L (mI n :: st)) : mj_X G M Q A kc ks pc L (st) := by
  intro p e s m args below meth c H locs ls ρ0 ρ cells slots F S
  refine lv_sipush (v := Int32.ofInt n) F.1 F.2.1 hd hv ?_
  exact k p e s m args below meth c H locs ls ρ0 ρ cells slots F (S.to1 (fun h => List.forall_mem_cons.mpr ⟨mj_okI _, h⟩))
theorem mx_lconst {n : Fin 2} {z : Int} (hd : decode (mi_code M) pc = .ok (.lconst n, 1)) (hv : Int64.ofNat (n : Nat) = Int64.ofInt z) (k : mj_X G M Q A kc ks (pc + 1) L (mZ z :: st)) : mj_X G M Q A kc ks pc L (st) := by
  intro p e s m args below meth c H locs ls ρ0 ρ cells slots F S
  refine lv_lconst (v := Int64.ofInt z) F.1 F.2.1 hd hv ?_
  exact k p e s m args below meth c H locs ls ρ0 ρ cells slots F (S.to1 (fun h => List.forall_mem_cons.mpr ⟨mj_okZ _, h⟩))
theorem mx_iload_n {k0 : Fin 4} (i : Nat) {x : Int} (hd : decode (mi_code M) pc = .ok (.iload_n k0, 1)) (hi : (k0 : Nat) = i) (hl : L[i]? = some (some (mI x))) (k : mj_X G M Q A kc ks (pc + 1) L (mI x :: st)) : mj_X G M Q A kc ks pc L (st) := by
  intro p e s m args below meth c H locs ls ρ0 ρ cells slots F S
  refine lv_iload_n F.1 F.2.1 hd hi (S.2.2.2.2.2.1.at hl) ?_
  exact k p e s m args below meth c H locs ls ρ0 ρ cells slots F (S.to1 (fun h => List.forall_mem_cons.mpr ⟨mj_okI _, h⟩))
theorem mx_iload (i : Nat) {x : Int} (hd : decode (mi_code M) pc = .ok (.iload i, 2)) (hl : L[i]? = some (some (mI x))) (k : mj_X G M Q A kc ks (pc + 2) L (mI x :: st)) : mj_X G M Q A kc ks pc L (st) := by
  intro p e s m args below meth c H locs ls ρ0 ρ cells slots F S
  refine lv_iload F.1 F.2.1 hd (S.2.2.2.2.2.1.at hl) ?_
  exact k p e s m args below meth c H locs ls ρ0 ρ cells slots F (S.to1 (fun h => List.forall_mem_cons.mpr ⟨mj_okI _, h⟩))
theorem mx_aload_n {k0 : Fin 4} (i : Nat) {r : Option Int} (hd : decode (mi_code M) pc = .ok (.aload_n k0, 1)) (hi : (k0 : Nat) = i) (hl : L[i]? = some (some (mR r))) (k : mj_X G M Q A kc ks (pc + 1) L (mR r :: st)) : mj_X G M Q A kc ks pc L st := by
  intro p e s m args below meth c H locs ls ρ0 ρ cells slots F S
  have h1 := S.2.2.2.2.2.1.at hl
  have h2 := k p e s m args below meth c H locs ls ρ0 ρ cells slots F (S.to1 (fun h => List.forall_mem_cons.mpr ⟨(S.2.2.2.2.2.1.2.2 i _ hl).1, h⟩))
  cases r with
  | none => exact lv_aload_nN F.1 F.2.1 hd hi h1 h2
  | some a => exact lv_aload_n F.1 F.2.1 hd hi h1 h2
theorem mx_aload (i : Nat) {r : Option Int} (hd : decode (mi_code M) pc = .ok (.aload i, 2)) (hl : L[i]? = some (some (mR r))) (k : mj_X G M Q A kc ks (pc + 2) L (mR r :: st)) : mj_X G M Q A kc ks pc L st := by
  intro p e s m args below meth c H locs ls ρ0 ρ cells slots F S
  have h1 := S.2.2.2.2.2.1.at hl
  have h2 := k p e s m args below meth c H locs ls ρ0 ρ cells slots F (S.to1 (fun h => List.forall_mem_cons.mpr ⟨(S.2.2.2.2.2.1.2.2 i _ hl).1, h⟩))
  cases r with
  | none => exact lv_aloadN F.1 F.2.1 hd h1 h2
  | some a => exact lv_aload F.1 F.2.1 hd h1 h2
theorem mx_iadd {x y : Int} (hd : decode (mi_code M) pc = .ok (.iadd, 1)) (k : mj_X G M Q A kc ks (pc + 1) L (mI (x + y) :: st)) : mj_X G M Q A kc ks pc L (mI y :: mI x :: st) := by
  intro p e s m args below meth c H locs ls ρ0 ρ cells slots F S
  refine lv_iadd F.1 F.2.1 hd ?_
  rw [← Int32.ofInt_add]
  exact k p e s m args below meth c H locs ls ρ0 ρ cells slots F (S.to1 (fun h => List.forall_mem_cons.mpr ⟨mj_okI _, (List.forall_mem_cons.mp (List.forall_mem_cons.mp h).2).2⟩))
theorem mx_isub {x y : Int} (hd : decode (mi_code M) pc = .ok (.isub, 1)) (k : mj_X G M Q A kc ks (pc + 1) L (mI (x - y) :: st)) : mj_X G M Q A kc ks pc L (mI y :: mI x :: st) := by
  intro p e s m args below meth c H locs ls ρ0 ρ cells slots F S
  refine lv_isub F.1 F.2.1 hd ?_
  rw [← Int32.ofInt_sub]
  exact k p e s m args below meth c H locs ls ρ0 ρ cells slots F (S.to1 (fun h => List.forall_mem_cons.mpr ⟨mj_okI _, (List.forall_mem_cons.mp (List.forall_mem_cons.mp h).2).2⟩))
theorem mx_imul {x y : Int} (hd : decode (mi_code M) pc = .ok (.imul, 1)) (k : mj_X G M Q A kc ks (pc + 1) L (mI (x * y) :: st)) : mj_X G M Q A kc ks pc L (mI y :: mI x :: st) := by
  intro p e s m args below meth c H locs ls ρ0 ρ cells slots F S
  refine lv_imul F.1 F.2.1 hd ?_
  rw [← Int32.ofInt_mul]
  exact k p e s m args below meth c H locs ls ρ0 ρ cells slots F (S.to1 (fun h => List.forall_mem_cons.mpr ⟨mj_okI _, (List.forall_mem_cons.mp (List.forall_mem_cons.mp h).2).2⟩))
theorem mx_ineg {x : Int} (hd : decode (mi_code M) pc = .ok (.ineg, 1)) (k : mj_X G M Q A kc ks (pc + 1) L (mI (-x) :: st)) : mj_X G M Q A kc ks pc L (mI x :: st) := by
  intro p e s m args below meth c H locs ls ρ0 ρ cells slots F S
  refine lv_ineg F.1 F.2.1 hd ?_
  rw [← Int32.ofInt_neg]
  exact k p e s m args below meth c H locs ls ρ0 ρ cells slots F (S.to1 (fun h => List.forall_mem_cons.mpr ⟨mj_okI _, (List.forall_mem_cons.mp h).2⟩))
theorem mx_idiv {x y : Int} (hd : decode (mi_code M) pc = .ok (.idiv, 1)) (hx : r32 x) (hy : r32 y) (h0 : ¬ y = 0) (k : mj_X G M Q A kc ks (pc + 1) L (mI (x.tdiv y) :: st)) : mj_X G M Q A kc ks pc L (mI y :: mI x :: st) := by
  intro p e s m args below meth c H locs ls ρ0 ρ cells slots F S
  refine lv_idiv F.1 F.2.1 hd (by rw [r32_eq0 hy]; exact h0) ?_
  rw [← mj_div hx hy]
  exact k p e s m args below meth c H locs ls ρ0 ρ cells slots F (S.to1 (fun h => List.forall_mem_cons.mpr ⟨mj_okI _, (List.forall_mem_cons.mp (List.forall_mem_cons.mp h).2).2⟩))
theorem mx_irem {x y : Int} (hd : decode (mi_code M) pc = .ok (.irem, 1)) (hx : r32 x) (hy : r32 y) (h0 : ¬ y = 0) (k : mj_X G M Q A kc ks (pc + 1) L (mI (x.tmod y) :: st)) : mj_X G M Q A kc ks pc L (mI y :: mI x :: st) := by
  intro p e s m args below meth c H locs ls ρ0 ρ cells slots F S
  refine lv_irem F.1 F.2.1 hd (by rw [r32_eq0 hy]; exact h0) ?_
  rw [mj_rem hx hy]
  exact k p e s m args below meth c H locs ls ρ0 ρ cells slots F (S.to1 (fun h => List.forall_mem_cons.mpr ⟨mj_okI _, (List.forall_mem_cons.mp (List.forall_mem_cons.mp h).2).2⟩))
theorem mx_i2l {x : Int} (hd : decode (mi_code M) pc = .ok (.i2l, 1)) (hx : r32 x) (k : mj_X G M Q A kc ks (pc + 1) L (mZ x :: st)) : mj_X G M Q A kc ks pc L (mI x :: st) := by
  intro p e s m args below meth c H locs ls ρ0 ρ cells slots F S
  refine lv_i2l (v := Int64.ofInt x) F.1 F.2.1 hd (mj_i2l hx) ?_
  exact k p e s m args below meth c H locs ls ρ0 ρ cells slots F (S.to1 (fun h => List.forall_mem_cons.mpr ⟨mj_okZ _, (List.forall_mem_cons.mp h).2⟩))
theorem mx_ishl1 {y : Int} (hd : decode (mi_code M) pc = .ok (.ishl, 1)) (h0 : 0 ≤ y) (h1 : y < 31) (k : mj_X G M Q A kc ks (pc + 1) L (mI (2 ^ y.toNat) :: st)) : mj_X G M Q A kc ks pc L (mI y :: mI 1 :: st) := by
  intro p e s m args below meth c H locs ls ρ0 ρ cells slots F S
  refine lv_ishl F.1 F.2.1 hd ?_
  rw [mj_shl1 h0 h1]
  exact k p e s m args below meth c H locs ls ρ0 ρ cells slots F (S.to1 (fun h => List.forall_mem_cons.mpr ⟨mj_okI _, (List.forall_mem_cons.mp (List.forall_mem_cons.mp h).2).2⟩))
theorem mx_ishr {x y : Int} (hd : decode (mi_code M) pc = .ok (.ishr, 1)) (hx : r32 x) (h0 : 0 ≤ y) (h1 : y < 31) (k : mj_X G M Q A kc ks (pc + 1) L (mI (x / 2 ^ y.toNat) :: st)) : mj_X G M Q A kc ks pc L (mI y :: mI x :: st) := by
  intro p e s m args below meth c H locs ls ρ0 ρ cells slots F S
  refine lv_ishr F.1 F.2.1 hd ?_
  rw [mj_shr hx h0 h1]
  exact k p e s m args below meth c H locs ls ρ0 ρ cells slots F (S.to1 (fun h => List.forall_mem_cons.mpr ⟨mj_okI _, (List.forall_mem_cons.mp (List.forall_mem_cons.mp h).2).2⟩))
theorem mx_ior {x y : Int} (hd : decode (mi_code M) pc = .ok (.ior, 1)) (hx : 0 ≤ x ∧ x < 2147483648) (hy : 0 ≤ y ∧ y < 2147483648) (k : mj_X G M Q A kc ks (pc + 1) L (mI ((x.toNat ||| y.toNat : Nat) : Int) :: st)) : mj_X G M Q A kc ks pc L (mI y :: mI x :: st) := by
  intro p e s m args below meth c H locs ls ρ0 ρ cells slots F S
  refine lv_ior F.1 F.2.1 hd ?_
  rw [mj_or hx.1 hy.1]
  exact k p e s m args below meth c H locs ls ρ0 ρ cells slots F (S.to1 (fun h => List.forall_mem_cons.mpr ⟨mj_okI _, (List.forall_mem_cons.mp (List.forall_mem_cons.mp h).2).2⟩))
theorem mx_iand1 {x : Int} (hd : decode (mi_code M) pc = .ok (.iand, 1)) (k : mj_X G M Q A kc ks (pc + 1) L (mI (x % 2) :: st)) : mj_X G M Q A kc ks pc L (mI 1 :: mI x :: st) := by
  intro p e s m args below meth c H locs ls ρ0 ρ cells slots F S
  refine lv_iand F.1 F.2.1 hd ?_
  rw [mj_and1]
  exact k p e s m args below meth c H locs ls ρ0 ρ cells slots F (S.to1 (fun h => List.forall_mem_cons.mpr ⟨mj_okI _, (List.forall_mem_cons.mp (List.forall_mem_cons.mp h).2).2⟩))
theorem mx_iand63 {x : Int} (hd : decode (mi_code M) pc = .ok (.iand, 1)) (k : mj_X G M Q A kc ks (pc + 1) L (mI (x % 64) :: st)) : mj_X G M Q A kc ks pc L (mI 63 :: mI x :: st) := by
  intro p e s m args below meth c H locs ls ρ0 ρ cells slots F S
  refine lv_iand F.1 F.2.1 hd ?_
  rw [mj_and63]
  exact k p e s m args below meth c H locs ls ρ0 ρ cells slots F (S.to1 (fun h => List.forall_mem_cons.mpr ⟨mj_okI _, (List.forall_mem_cons.mp (List.forall_mem_cons.mp h).2).2⟩))
theorem mx_iandB {x y : Int} (hd : decode (mi_code M) pc = .ok (.iand, 1)) (hx : x = 0 ∨ x = 1) (hy : y = 0 ∨ y = 1) (k : mj_X G M Q A kc ks (pc + 1) L (mI (if x = 1 ∧ y = 1 then 1 else 0) :: st)) : mj_X G M Q A kc ks pc L (mI y :: mI x :: st) := by
  intro p e s m args below meth c H locs ls ρ0 ρ cells slots F S
  refine lv_iand F.1 F.2.1 hd ?_
  rw [mj_andB hx hy]
  exact k p e s m args below meth c H locs ls ρ0 ρ cells slots F (S.to1 (fun h => List.forall_mem_cons.mpr ⟨mj_okI _, (List.forall_mem_cons.mp (List.forall_mem_cons.mp h).2).2⟩))
theorem mx_iorB {x y : Int} (hd : decode (mi_code M) pc = .ok (.ior, 1)) (hx : x = 0 ∨ x = 1) (hy : y = 0 ∨ y = 1) (k : mj_X G M Q A kc ks (pc + 1) L (mI (if x = 1 ∨ y = 1 then 1 else 0) :: st)) : mj_X G M Q A kc ks pc L (mI y :: mI x :: st) := by
  intro p e s m args below meth c H locs ls ρ0 ρ cells slots F S
  refine lv_ior F.1 F.2.1 hd ?_
  rw [mj_orB hx hy]
  exact k p e s m args below meth c H locs ls ρ0 ρ cells slots F (S.to1 (fun h => List.forall_mem_cons.mpr ⟨mj_okI _, (List.forall_mem_cons.mp (List.forall_mem_cons.mp h).2).2⟩))
theorem mx_lcmp {x y : Int} (hd : decode (mi_code M) pc = .ok (.lcmp, 1)) (hx : r32 x) (hy : r32 y) (k : mj_X G M Q A kc ks (pc + 1) L (mI (if y < x then 1 else if x = y then 0 else -1) :: st)) : mj_X G M Q A kc ks pc L (mZ y :: mZ x :: st) := by
  intro p e s m args below meth c H locs ls ρ0 ρ cells slots F S
  refine W.lcmp F.1 F.2.1 hd ?_
  rw [mj_lcmp hx hy]
  exact k p e s m args below meth c H locs ls ρ0 ρ cells slots F (S.to1 (fun h => List.forall_mem_cons.mpr ⟨mj_okI _, (List.forall_mem_cons.mp (List.forall_mem_cons.mp h).2).2⟩))
theorem mx_null (hd : decode (mi_code M) pc = .ok (.aconst_null, 1)) (k : mj_X G M Q A kc ks (pc + 1) L (mR none :: st)) : mj_X G M Q A kc ks pc L (st) := by
  intro p e s m args below meth c H locs ls ρ0 ρ cells slots F S
  refine lv_null F.1 F.2.1 hd ?_
  exact k p e s m args below meth c H locs ls ρ0 ρ cells slots F (S.to1 (fun h => List.forall_mem_cons.mpr ⟨mj_okN, h⟩))
theorem mx_dup {v : mj_V} (hd : decode (mi_code M) pc = .ok (.dup, 1)) (hv : ∀ z, v ≠ mZ z) (k : mj_X G M Q A kc ks (pc + 1) L (v :: v :: st)) : mj_X G M Q A kc ks pc L (v :: st) := by
  intro p e s m args below meth c H locs ls ρ0 ρ cells slots F S
  exact lv_dup F.1 F.2.1 hd (mj_cat hv) (k p e s m args below meth c H locs ls ρ0 ρ cells slots F (S.to1 (fun h => List.forall_mem_cons.mpr ⟨(List.forall_mem_cons.mp h).1, h⟩)))
theorem mx_dup2 {v w : mj_V} (hd : decode (mi_code M) pc = .ok (.dup2, 1)) (hv : ∀ z, v ≠ mZ z) (hw : ∀ z, w ≠ mZ z) (k : mj_X G M Q A kc ks (pc + 1) L (v :: w :: v :: w :: st)) : mj_X G M Q A kc ks pc L (v :: w :: st) := by
  intro p e s m args below meth c H locs ls ρ0 ρ cells slots F S
  exact lv_dup2_11 F.1 F.2.1 hd (mj_cat hv) (mj_cat hw) (k p e s m args below meth c H locs ls ρ0 ρ cells slots F (S.to1 (fun h => List.forall_mem_cons.mpr ⟨(List.forall_mem_cons.mp h).1, List.forall_mem_cons.mpr ⟨(List.forall_mem_cons.mp (List.forall_mem_cons.mp h).2).1, h⟩⟩)))
theorem mx_dup_x1 {v w : mj_V} (hd : decode (mi_code M) pc = .ok (.dup_x1, 1)) (hv : ∀ z, v ≠ mZ z) (hw : ∀ z, w ≠ mZ z) (k : mj_X G M Q A kc ks (pc + 1) L (v :: w :: v :: st)) : mj_X G M Q A kc ks pc L (v :: w :: st) := by
  intro p e s m args below meth c H locs ls ρ0 ρ cells slots F S
  exact lv_dup_x1 F.1 F.2.1 hd (mj_cat hv) (mj_cat hw) (k p e s m args below meth c H locs ls ρ0 ρ cells slots F (S.to1 (fun h => List.forall_mem_cons.mpr ⟨(List.forall_mem_cons.mp h).1, List.forall_mem_cons.mpr ⟨(List.forall_mem_cons.mp (List.forall_mem_cons.mp h).2).1, List.forall_mem_cons.mpr ⟨(List.forall_mem_cons.mp h).1, (List.forall_mem_cons.mp (List.forall_mem_cons.mp h).2).2⟩⟩⟩)))
theorem mx_istore_n {k0 : Fin 4} (i : Nat) {x : Int} (hd : decode (mi_code M) pc = .ok (.istore_n k0, 1)) (hi : (k0 : Nat) = i) (hn : i < mi_ml M) (k : mj_X G M Q A kc ks (pc + 1) (L.set i (some (mI x))) st) : mj_X G M Q A kc ks pc L (mI x :: st) := by
  intro p e s m args below meth c H locs ls ρ0 ρ cells slots F S
  refine lv_istore_n F.1 F.2.1 hd hi S.2.2.2.2.2.1.1 hn rfl fun ls' h' => ?_
  exact k p e s m args below meth c H locs ls' ρ0 ρ cells slots F (S.to2 (S.2.2.2.2.2.1.set (mj_okI x) (fun z h => by cases h) h') (fun h => (List.forall_mem_cons.mp h).2))
theorem mx_istore (i : Nat) {x : Int} (hd : decode (mi_code M) pc = .ok (.istore i, 2)) (hn : i < mi_ml M) (k : mj_X G M Q A kc ks (pc + 2) (L.set i (some (mI x))) st) : mj_X G M Q A kc ks pc L (mI x :: st) := by
  intro p e s m args below meth c H locs ls ρ0 ρ cells slots F S
  refine lv_istore F.1 F.2.1 hd S.2.2.2.2.2.1.1 hn rfl fun ls' h' => ?_
  exact k p e s m args below meth c H locs ls' ρ0 ρ cells slots F (S.to2 (S.2.2.2.2.2.1.set (mj_okI x) (fun z h => by cases h) h') (fun h => (List.forall_mem_cons.mp h).2))
theorem mx_astore_n {k0 : Fin 4} (i : Nat) {r : Option Int} (hd : decode (mi_code M) pc = .ok (.astore_n k0, 1)) (hi : (k0 : Nat) = i) (hn : i < mi_ml M) (k : mj_X G M Q A kc ks (pc + 1) (L.set i (some (mR r))) st) : mj_X G M Q A kc ks pc L (mR r :: st) := by
  intro p e s m args below meth c H locs ls ρ0 ρ cells slots F S
  have hr := (List.forall_mem_cons.mp S.2.2.2.2.2.2).1
  have kk : ∀ ls' : Array Slot, lv_has ls' (mi_ml M) ((i, mj_c ρ (mR r)) :: (mj_l ρ 0 L).filter (fun q => !(q.1 == i) && !(q.1 + 1 == i && q.2.category == 2))) → W p G.1 e (mi_rm M) s m args below meth c H locs cells slots (Q ρ0 args s below) (F0 m (pc + 1) ls' (st.map (mj_c ρ))) := fun ls' h' => k p e s m args below meth c H locs ls' ρ0 ρ cells slots F (S.to2 (S.2.2.2.2.2.1.set hr (fun z h => by cases h) h') (fun h => (List.forall_mem_cons.mp h).2))
  cases r with
  | none => exact lv_astore_nN F.1 F.2.1 hd hi S.2.2.2.2.2.1.1 hn rfl kk
  | some a => exact lv_astore_n F.1 F.2.1 hd hi S.2.2.2.2.2.1.1 hn rfl kk
theorem mx_astore (i : Nat) {r : Option Int} (hd : decode (mi_code M) pc = .ok (.astore i, 2)) (hn : i < mi_ml M) (k : mj_X G M Q A kc ks (pc + 2) (L.set i (some (mR r))) st) : mj_X G M Q A kc ks pc L (mR r :: st) := by
  intro p e s m args below meth c H locs ls ρ0 ρ cells slots F S
  have hr := (List.forall_mem_cons.mp S.2.2.2.2.2.2).1
  have kk : ∀ ls' : Array Slot, lv_has ls' (mi_ml M) ((i, mj_c ρ (mR r)) :: (mj_l ρ 0 L).filter (fun q => !(q.1 == i) && !(q.1 + 1 == i && q.2.category == 2))) → W p G.1 e (mi_rm M) s m args below meth c H locs cells slots (Q ρ0 args s below) (F0 m (pc + 2) ls' (st.map (mj_c ρ))) := fun ls' h' => k p e s m args below meth c H locs ls' ρ0 ρ cells slots F (S.to2 (S.2.2.2.2.2.1.set hr (fun z h => by cases h) h') (fun h => (List.forall_mem_cons.mp h).2))
  cases r with
  | none => exact lv_astoreN F.1 F.2.1 hd S.2.2.2.2.2.1.1 hn rfl kk
  | some a => exact lv_astore F.1 F.2.1 hd S.2.2.2.2.2.1.1 hn rfl kk
theorem mx_iinc (i : Nat) {n x : Int} (hd : decode (mi_code M) pc = .ok (.iinc i n, 3)) (hl : L[i]? = some (some (mI x))) (hn : i < mi_ml M) (k : mj_X G M Q A kc ks (pc + 3) (L.set i (some (mI (x + n)))) st) : mj_X G M Q A kc ks pc L st := by
  intro p e s m args below meth c H locs ls ρ0 ρ cells slots F S
  obtain ⟨j, hj⟩ := List.getElem?_of_mem ((mj_l_mem (ρ := ρ) (j := i) (w := mj_c ρ (mI x)) L 0).mpr ⟨i, mI x, hl, by omega, rfl⟩)
  refine lv_iinc (v := Int32.ofInt (x + n)) F.1 F.2.1 hd S.2.2.2.2.2.1.1 hj (by rw [Int32.ofInt_add]) hn rfl fun ls' h' => ?_
  exact k p e s m args below meth c H locs ls' ρ0 ρ cells slots F (S.to2 (S.2.2.2.2.2.1.set (mj_okI _) (fun z h => by cases h) h') id)
theorem mx_goto {off : Int} (tgt : Nat) (hd : decode (mi_code M) pc = .ok (.goto off, 3)) (ht : (pc : Int) + off = (tgt : Int)) (k : mj_X G M Q A kc ks tgt L st) : mj_X G M Q A kc ks pc L st := by
  intro p e s m args below meth c H locs ls ρ0 ρ cells slots F S
  exact lv_goto F.1 F.2.1 hd ht (k p e s m args below meth c H locs ls ρ0 ρ cells slots F S)
theorem mx_icmp_eq {x y off : Int} (tgt : Nat) (hd : decode (mi_code M) pc = .ok (.if_icmp .eq off, 3)) (ht : (pc : Int) + off = (tgt : Int)) (hx : r32 x) (hy : r32 y) (kt : x = y → mj_X G M Q A kc ks tgt L st) (kf : ¬ x = y → mj_X G M Q A kc ks (pc + 3) L st) : mj_X G M Q A kc ks pc L (mI y :: mI x :: st) := by
  intro p e s m args below meth c H locs ls ρ0 ρ cells slots F S
  have S' := S.to1 (fun h => (List.forall_mem_cons.mp (List.forall_mem_cons.mp h).2).2)
  exact lv_icmp_eq F.1 F.2.1 hd ht (fun h => kt ((fun h => (r32_eq hx hy).mp h) h) p e s m args below meth c H locs ls ρ0 ρ cells slots F S') (fun h => kf ((fun h => fun z => h ((r32_eq hx hy).mpr z)) h) p e s m args below meth c H locs ls ρ0 ρ cells slots F S')
theorem mx_if_eq {x off : Int} (tgt : Nat) (hd : decode (mi_code M) pc = .ok (.ifCond .eq off, 3)) (ht : (pc : Int) + off = (tgt : Int)) (hx : r32 x) (kt : x = 0 → mj_X G M Q A kc ks tgt L st) (kf : ¬ x = 0 → mj_X G M Q A kc ks (pc + 3) L st) : mj_X G M Q A kc ks pc L (mI x :: st) := by
  intro p e s m args below meth c H locs ls ρ0 ρ cells slots F S
  have S' := S.to1 (fun h => (List.forall_mem_cons.mp h).2)
  have hy : r32 0 := r32_0
  exact lv_if_eq F.1 F.2.1 hd ht (fun h => kt ((fun h => (r32_eq hx hy).mp h) h) p e s m args below meth c H locs ls ρ0 ρ cells slots F S') (fun h => kf ((fun h => fun z => h ((r32_eq hx hy).mpr z)) h) p e s m args below meth c H locs ls ρ0 ρ cells slots F S')
theorem mx_icmp_ne {x y off : Int} (tgt : Nat) (hd : decode (mi_code M) pc = .ok (.if_icmp .ne off, 3)) (ht : (pc : Int) + off = (tgt : Int)) (hx : r32 x) (hy : r32 y) (kt : ¬ x = y → mj_X G M Q A kc ks tgt L st) (kf : x = y → mj_X G M Q A kc ks (pc + 3) L st) : mj_X G M Q A kc ks pc L (mI y :: mI x :: st) := by
  intro p e s m args below meth c H locs ls ρ0 ρ cells slots F S
  have S' := S.to1 (fun h => (List.forall_mem_cons.mp (List.forall_mem_cons.mp h).2).2)
  exact lv_icmp_ne F.1 F.2.1 hd ht (fun h => kt ((fun h => fun z => h ((r32_eq hx hy).mpr z)) h) p e s m args below meth c H locs ls ρ0 ρ cells slots F S') (fun h => kf ((fun h => (r32_eq hx hy).mp h) h) p e s m args below meth c H locs ls ρ0 ρ cells slots F S')
theorem mx_if_ne {x off : Int} (tgt : Nat) (hd : decode (mi_code M) pc = .ok (.ifCond .ne off, 3)) (ht : (pc : Int) + off = (tgt : Int)) (hx : r32 x) (kt : ¬ x = 0 → mj_X G M Q A kc ks tgt L st) (kf : x = 0 → mj_X G M Q A kc ks (pc + 3) L st) : mj_X G M Q A kc ks pc L (mI x :: st) := by
  intro p e s m args below meth c H locs ls ρ0 ρ cells slots F S
  have S' := S.to1 (fun h => (List.forall_mem_cons.mp h).2)
  have hy : r32 0 := r32_0
  exact lv_if_ne F.1 F.2.1 hd ht (fun h => kt ((fun h => fun z => h ((r32_eq hx hy).mpr z)) h) p e s m args below meth c H locs ls ρ0 ρ cells slots F S') (fun h => kf ((fun h => (r32_eq hx hy).mp h) h) p e s m args below meth c H locs ls ρ0 ρ cells slots F S')
theorem mx_icmp_lt {x y off : Int} (tgt : Nat) (hd : decode (mi_code M) pc = .ok (.if_icmp .lt off, 3)) (ht : (pc : Int) + off = (tgt : Int)) (hx : r32 x) (hy : r32 y) (kt : x < y → mj_X G M Q A kc ks tgt L st) (kf : y ≤ x → mj_X G M Q A kc ks (pc + 3) L st) : mj_X G M Q A kc ks pc L (mI y :: mI x :: st) := by
  intro p e s m args below meth c H locs ls ρ0 ρ cells slots F S
  have S' := S.to1 (fun h => (List.forall_mem_cons.mp (List.forall_mem_cons.mp h).2).2)
  exact lv_icmp_lt F.1 F.2.1 hd ht (fun h => kt ((fun h => (r32_lt hx hy).mp h) h) p e s m args below meth c H locs ls ρ0 ρ cells slots F S') (fun h => kf ((fun h => Int.not_lt.mp fun z => h ((r32_lt hx hy).mpr z)) h) p e s m args below meth c H locs ls ρ0 ρ cells slots F S')
theorem mx_if_lt {x off : Int} (tgt : Nat) (hd : decode (mi_code M) pc = .ok (.ifCond .lt off, 3)) (ht : (pc : Int) + off = (tgt : Int)) (hx : r32 x) (kt : x < 0 → mj_X G M Q A kc ks tgt L st) (kf : 0 ≤ x → mj_X G M Q A kc ks (pc + 3) L st) : mj_X G M Q A kc ks pc L (mI x :: st) := by
  intro p e s m args below meth c H locs ls ρ0 ρ cells slots F S
  have S' := S.to1 (fun h => (List.forall_mem_cons.mp h).2)
  have hy : r32 0 := r32_0
  exact lv_if_lt F.1 F.2.1 hd ht (fun h => kt ((fun h => (r32_lt hx hy).mp h) h) p e s m args below meth c H locs ls ρ0 ρ cells slots F S') (fun h => kf ((fun h => Int.not_lt.mp fun z => h ((r32_lt hx hy).mpr z)) h) p e s m args below meth c H locs ls ρ0 ρ cells slots F S')
theorem mx_icmp_ge {x y off : Int} (tgt : Nat) (hd : decode (mi_code M) pc = .ok (.if_icmp .ge off, 3)) (ht : (pc : Int) + off = (tgt : Int)) (hx : r32 x) (hy : r32 y) (kt : y ≤ x → mj_X G M Q A kc ks tgt L st) (kf : x < y → mj_X G M Q A kc ks (pc + 3) L st) : mj_X G M Q A kc ks pc L (mI y :: mI x :: st) := by
  intro p e s m args below meth c H locs ls ρ0 ρ cells slots F S
  have S' := S.to1 (fun h => (List.forall_mem_cons.mp (List.forall_mem_cons.mp h).2).2)
  exact lv_icmp_ge F.1 F.2.1 hd ht (fun h => kt ((fun h => (r32_le hy hx).mp h) h) p e s m args below meth c H locs ls ρ0 ρ cells slots F S') (fun h => kf ((fun h => Int.not_le.mp fun z => h ((r32_le hy hx).mpr z)) h) p e s m args below meth c H locs ls ρ0 ρ cells slots F S')
theorem mx_if_ge {x off : Int} (tgt : Nat) (hd : decode (mi_code M) pc = .ok (.ifCond .ge off, 3)) (ht : (pc : Int) + off = (tgt : Int)) (hx : r32 x) (kt : 0 ≤ x → mj_X G M Q A kc ks tgt L st) (kf : x < 0 → mj_X G M Q A kc ks (pc + 3) L st) : mj_X G M Q A kc ks pc L (mI x :: st) := by
  intro p e s m args below meth c H locs ls ρ0 ρ cells slots F S
  have S' := S.to1 (fun h => (List.forall_mem_cons.mp h).2)
  have hy : r32 0 := r32_0
  exact lv_if_ge F.1 F.2.1 hd ht (fun h => kt ((fun h => (r32_le hy hx).mp h) h) p e s m args below meth c H locs ls ρ0 ρ cells slots F S') (fun h => kf ((fun h => Int.not_le.mp fun z => h ((r32_le hy hx).mpr z)) h) p e s m args below meth c H locs ls ρ0 ρ cells slots F S')
theorem mx_icmp_gt {x y off : Int} (tgt : Nat) (hd : decode (mi_code M) pc = .ok (.if_icmp .gt off, 3)) (ht : (pc : Int) + off = (tgt : Int)) (hx : r32 x) (hy : r32 y) (kt : y < x → mj_X G M Q A kc ks tgt L st) (kf : x ≤ y → mj_X G M Q A kc ks (pc + 3) L st) : mj_X G M Q A kc ks pc L (mI y :: mI x :: st) := by
  intro p e s m args below meth c H locs ls ρ0 ρ cells slots F S
  have S' := S.to1 (fun h => (List.forall_mem_cons.mp (List.forall_mem_cons.mp h).2).2)
  exact lv_icmp_gt F.1 F.2.1 hd ht (fun h => kt ((fun h => (r32_lt hy hx).mp h) h) p e s m args below meth c H locs ls ρ0 ρ cells slots F S') (fun h => kf ((fun h => Int.not_lt.mp fun z => h ((r32_lt hy hx).mpr z)) h) p e s m args below meth c H locs ls ρ0 ρ cells slots F S')
theorem mx_if_gt {x off : Int} (tgt : Nat) (hd : decode (mi_code M) pc = .ok (.ifCond .gt off, 3)) (ht : (pc : Int) + off = (tgt : Int)) (hx : r32 x) (kt : 0 < x → mj_X G M Q A kc ks tgt L st) (kf : x ≤ 0 → mj_X G M Q A kc ks (pc + 3) L st) : mj_X G M Q A kc ks pc L (mI x :: st) := by
  intro p e s m args below meth c H locs ls ρ0 ρ cells slots F S
  have S' := S.to1 (fun h => (List.forall_mem_cons.mp h).2)
  have hy : r32 0 := r32_0
  exact lv_if_gt F.1 F.2.1 hd ht (fun h => kt ((fun h => (r32_lt hy hx).mp h) h) p e s m args below meth c H locs ls ρ0 ρ cells slots F S') (fun h => kf ((fun h => Int.not_lt.mp fun z => h ((r32_lt hy hx).mpr z)) h) p e s m args below meth c H locs ls ρ0 ρ cells slots F S')
theorem mx_icmp_le {x y off : Int} (tgt : Nat) (hd : decode (mi_code M) pc = .ok (.if_icmp .le off, 3)) (ht : (pc : Int) + off = (tgt : Int)) (hx : r32 x) (hy : r32 y) (kt : x ≤ y → mj_X G M Q A kc ks tgt L st) (kf : y < x → mj_X G M Q A kc ks (pc + 3) L st) : mj_X G M Q A kc ks pc L (mI y :: mI x :: st) := by
  intro p e s m args below meth c H locs ls ρ0 ρ cells slots F S
  have S' := S.to1 (fun h => (List.forall_mem_cons.mp (List.forall_mem_cons.mp h).2).2)
  exact lv_icmp_le F.1 F.2.1 hd ht (fun h => kt ((fun h => (r32_le hx hy).mp h) h) p e s m args below meth c H locs ls ρ0 ρ cells slots F S') (fun h => kf ((fun h => Int.not_le.mp fun z => h ((r32_le hx hy).mpr z)) h) p e s m args below meth c H locs ls ρ0 ρ cells slots F S')
theorem mx_if_le {x off : Int} (tgt : Nat) (hd : decode (mi_code M) pc = .ok (.ifCond .le off, 3)) (ht : (pc : Int) + off = (tgt : Int)) (hx : r32 x) (kt : x ≤ 0 → mj_X G M Q A kc ks tgt L st) (kf : 0 < x → mj_X G M Q A kc ks (pc + 3) L st) : mj_X G M Q A kc ks pc L (mI x :: st) := by
  intro p e s m args below meth c H locs ls ρ0 ρ cells slots F S
  have S' := S.to1 (fun h => (List.forall_mem_cons.mp h).2)
  have hy : r32 0 := r32_0
  exact lv_if_le F.1 F.2.1 hd ht (fun h => kt ((fun h => (r32_le hx hy).mp h) h) p e s m args below meth c H locs ls ρ0 ρ cells slots F S') (fun h => kf ((fun h => Int.not_le.mp fun z => h ((r32_le hx hy).mpr z)) h) p e s m args below meth c H locs ls ρ0 ρ cells slots F S')
theorem mx_ifnull {r : Option Int} {off : Int} (tgt : Nat) (hd : decode (mi_code M) pc = .ok (.ifnull off, 3)) (ht : (pc : Int) + off = (tgt : Int)) (kt : r = none → mj_X G M Q A kc ks tgt L st) (kf : r ≠ none → mj_X G M Q A kc ks (pc + 3) L st) : mj_X G M Q A kc ks pc L (mR r :: st) := by
  intro p e s m args below meth c H locs ls ρ0 ρ cells slots F S
  have S' := S.to1 (fun h => (List.forall_mem_cons.mp h).2)
  cases r with
  | none => exact lv_ifnullN F.1 F.2.1 hd ht (kt rfl p e s m args below meth c H locs ls ρ0 ρ cells slots F S')
  | some a => exact lv_ifnull F.1 F.2.1 hd (kf (fun z => by cases z) p e s m args below meth c H locs ls ρ0 ρ cells slots F S')
theorem mx_ifnonnull {r : Option Int} {off : Int} (tgt : Nat) (hd : decode (mi_code M) pc = .ok (.ifnonnull off, 3)) (ht : (pc : Int) + off = (tgt : Int)) (kt : r ≠ none → mj_X G M Q A kc ks tgt L st) (kf : r = none → mj_X G M Q A kc ks (pc + 3) L st) : mj_X G M Q A kc ks pc L (mR r :: st) := by
  intro p e s m args below meth c H locs ls ρ0 ρ cells slots F S
  have S' := S.to1 (fun h => (List.forall_mem_cons.mp h).2)
  cases r with
  | none => exact lv_ifnonnullN F.1 F.2.1 hd (kf rfl p e s m args below meth c H locs ls ρ0 ρ cells slots F S')
  | some a => exact lv_ifnonnull F.1 F.2.1 hd ht (kt (fun z => by cases z) p e s m args below meth c H locs ls ρ0 ρ cells slots F S')
theorem mx_tableOut {dflt lo hi : Int} {offs : Array Int} {len : Nat} {x : Int} (tgt : Nat) (hd : decode (mi_code M) pc = .ok (.tableswitch dflt lo hi offs, len)) (hx : r32 x) (h : x < lo ∨ hi < x) (ht : (pc : Int) + dflt = (tgt : Int)) (k : mj_X G M Q A kc ks tgt L st) : mj_X G M Q A kc ks pc L (mI x :: st) := by
  intro p e s m args below meth c H locs ls ρ0 ρ cells slots F S
  exact lv_tableOut F.1 F.2.1 hd (by rw [r32_toInt hx]; exact h) ht (k p e s m args below meth c H locs ls ρ0 ρ cells slots F (S.to1 (fun h => (List.forall_mem_cons.mp h).2)))
theorem mx_tableIn {dflt lo hi : Int} {offs : Array Int} {len : Nat} {x off : Int} (tgt : Nat) (hd : decode (mi_code M) pc = .ok (.tableswitch dflt lo hi offs, len)) (hx : r32 x) (h1 : lo ≤ x) (h2 : x ≤ hi) (ho : offs[(x - lo).toNat]? = some off) (ht : (pc : Int) + off = (tgt : Int)) (k : mj_X G M Q A kc ks tgt L st) : mj_X G M Q A kc ks pc L (mI x :: st) := by
  intro p e s m args below meth c H locs ls ρ0 ρ cells slots F S
  exact lv_tableIn (x := Int32.ofInt x) F.1 F.2.1 hd (by rw [r32_toInt hx]; omega) (by rw [r32_toInt hx]; omega) (by rw [r32_toInt hx]; exact ho) ht (k p e s m args below meth c H locs ls ρ0 ρ cells slots F (S.to1 (fun h => (List.forall_mem_cons.mp h).2)))
end R1
end MJB
end
section
/-! THE SMALL MACHINE, 3: fields, arrays, new cells -/
section MJC
/-- entry idx of class own is field k of class ci -/
def mj_Fld (own : String) (idx ci k : Nat) (fin : Bool) : Prop := ∃ r : vw_C, mj_cl[ci]? = some r ∧ k < r.2.2 ∧ Cond.fieldLink own idx (r.2.1 k).1 (r.2.1 k).2.1 (r.2.1 k).2.2.1 ∈ mj_TB ∧ (r.2.1 k).2.2.2 = fin ∧ (r.2.1 k).1 = r.1
theorem mj_fT_ok : ∀ ci r, mj_cl[ci]? = some r → ∀ k, k < r.2.2 → defaultValue (mj_fT ci k) = (if mj_rf ci k = true then Value.null else Value.int (Int32.ofInt 0)) := by
  intro ci r h
  match ci, h with
  | 0, h => cases h; decide +kernel
  | 1, h => cases h; decide +kernel
  | 2, h => cases h; decide +kernel
  | 3, h => cases h; decide +kernel
  | 4, h => cases h; decide +kernel
  | 5, h => cases h; decide +kernel
  | 6, h => cases h; decide +kernel
  | 7, h => cases h; decide +kernel
  | n + 8, h => simp [mj_cl] at h
section R2
variable {G : mj_G} {M : mj_I} {Q : mj_Q} {A : mj_M} {kc ks pc : Nat} {L : List (Option mj_V)} {st : List mj_V}
theorem mj_cR {ρ : mj_P} {c : Int} {a : Nat} (h : ρ c = some a) : mj_c ρ (mR (some c)) = .ref a := by simp [mj_c, h, va_rf]
theorem mj_fvI {ρ : mj_P} {A : mj_M} {ci k : Nat} {c : Int} (h : mj_rf ci k = false) : mj_fv ρ A ci c k = mj_c ρ (mI (gI A c (k : Int))) := by unfold mj_fv; rw [h]; rfl
theorem mj_fvP {ρ : mj_P} {A : mj_M} {ci k : Nat} {c : Int} (h : mj_rf ci k = true) : mj_fv ρ A ci c k = mj_c ρ (mR (gP A c (k : Int))) := by unfold mj_fv; rw [h]; rfl
theorem gI_sIs (A : mj_M) (c i v : Int) : gI (sI A c i v) c i = v := by rw [gI_sI, if_pos ⟨rfl, rfl⟩]
theorem gP_sPs (A : mj_M) (c i : Int) (v : Option Int) : gP (sP A c i v) c i = v := by rw [gP_sP, if_pos ⟨rfl, rfl⟩]
/-- what a getfield needs -/
theorem mx_getf {idx ci k : Nat} {fin : Bool} {c : Int} {v : mj_V} (hd : decode (mi_code M) pc = .ok (.getfield idx, 3)) (hF : mj_Fld (mi_own M) idx ci k fin) (hs : gS A c = some (.inl ci)) (hv : ∀ ρ, mj_fv ρ A ci c k = mj_c ρ v) (hok : ∀ ρ H, mj_H G ρ A H → mj_ok ρ v) (kk : mj_X G M Q A kc ks (pc + 3) L (v :: st)) : mj_X G M Q A kc ks pc L (mR (some c) :: st) := by
  intro p e s m args below meth c9 H locs ls ρ0 ρ cells slots F S
  obtain ⟨r, hr, hk, hlink, hfin, hdecl⟩ := hF
  obtain ⟨a, ha, hz, r', hr', cell, q1, q2, q3, q4⟩ := S.2.2.2.1.sh hs
  cases hr.symm.trans hr'
  obtain ⟨hU, hN, hY⟩ := mj_cls hr
  have hts := F.2.2.2.2.2.2.2.2.1
  obtain ⟨hS, hfc, kC, hkC, hkind⟩ := F.2.2.2.2.2.2.2.2.2.1.1 ci r hr
  obtain ⟨cf, kf, fi, f, hi, hsl⟩ := hS k hk
  show W _ _ _ _ _ _ _ _ _ _ _ _ _ _ _ (F0 m pc ls (mj_c ρ (mR (some c)) :: st.map (mj_c ρ)))
  rw [mj_cR ha]
  refine W.getf F.1 F.2.1 F.2.2.2.1 (hts _ hlink) hi (u_facts hfc hkC (u_lays hts hU hk) hi).1 q1 (by rw [q3]; exact fun h => by cases h) (v := mj_c ρ v) ?_ rfl rfl hd (kk p e s m args below meth c9 H locs ls ρ0 ρ cells slots F (S.to1 fun h => List.forall_mem_cons.mpr ⟨hok ρ H S.2.2.2.1, (List.forall_mem_cons.mp h).2⟩))
  rw [hsl, q4 k hk, hv]
theorem mx_getI {idx ci k : Nat} {fin : Bool} (kz : Int) {c : Int} (hd : decode (mi_code M) pc = .ok (.getfield idx, 3)) (hF : mj_Fld (mi_own M) idx ci k fin) (hkz : (k : Int) = kz) (hr : mj_rf ci k = false) (hs : gS A c = some (.inl ci)) (kk : mj_X G M Q A kc ks (pc + 3) L (mI (gI A c kz) :: st)) : mj_X G M Q A kc ks pc L (mR (some c) :: st) :=
  mx_getf hd hF hs (fun ρ => by rw [mj_fvI hr, hkz]) (fun ρ H _ => mj_okI _) kk
theorem mx_getP {idx ci k : Nat} {fin : Bool} (kz : Int) {c : Int} (hd : decode (mi_code M) pc = .ok (.getfield idx, 3)) (hF : mj_Fld (mi_own M) idx ci k fin) (hkz : (k : Int) = kz) (hr : mj_rf ci k = true) (hs : gS A c = some (.inl ci)) (kk : mj_X G M Q A kc ks (pc + 3) L (mR (gP A c kz) :: st)) : mj_X G M Q A kc ks pc L (mR (some c) :: st) :=
  mx_getf hd hF hs (fun ρ => by rw [mj_fvP hr, hkz]) (fun ρ H h => mj_okR h fun q hq => h.2.2.1 c kz q (by rw [hs]; exact fun z => by cases z) hq) kk
/-- the memory with one place changed: a field, or a place of an array -/
def mj_Ch (A A' : mj_M) (c i : Int) : Prop := (∀ c', gS A' c' = gS A c') ∧ (∀ c' i', ¬ (c' = c ∧ i' = i) → gI A' c' i' = gI A c' i') ∧ (∀ c' i', ¬ (c' = c ∧ i' = i) → gP A' c' i' = gP A c' i')
theorem mj_Ch.I {A : mj_M} {c i x : Int} : mj_Ch A (sI A c i x) c i := ⟨fun _ => rfl, fun c' i' h => by rw [gI_sI, if_neg h], fun _ _ _ => rfl⟩
theorem mj_Ch.P {A : mj_M} {c i : Int} {x : Option Int} : mj_Ch A (sP A c i x) c i := ⟨fun _ => rfl, fun _ _ _ => rfl, fun c' i' h => by rw [gP_sP, if_neg h]⟩
theorem mj_fv_ne {ρ : mj_P} {A A' : mj_M} {ci j k : Nat} {c : Int} (h : mj_Ch A A' c (k : Int)) (hj : j ≠ k) : mj_fv ρ A' ci c j = mj_fv ρ A ci c j := by
  have hn : ¬ (c = c ∧ (j : Int) = (k : Int)) := fun z => hj (by omega)
  unfold mj_fv
  rw [h.2.1 c _ hn, h.2.2 c _ hn]
theorem mj_av_ne {ρ : mj_P} {A A' : mj_M} {t j k : Nat} {c : Int} (h : mj_Ch A A' c (k : Int)) (hj : j ≠ k) : mj_av ρ A' c t j = mj_av ρ A c t j := by
  have hn : ¬ (c = c ∧ (j : Int) = (k : Int)) := fun z => hj (by omega)
  unfold mj_av
  rw [h.2.1 c _ hn, h.2.2 c _ hn]
theorem mj_St.put {A' : mj_M} {ρ0 ρ : mj_P} {st st' : List mj_V} {s : State} {H H' : Heap} {locs : List Loc} {ls : Array Slot} {cells slots : Nat} (S : mj_St G M ρ0 ρ A kc ks L st s H locs ls cells slots) {c0 i : Int} {a0 k : Nat} {x : Nat ⊕ (Nat × Int)} (hs : gS A c0 = some x) (ha : ρ c0 = some a0) (hz : G.2.1 ≤ a0) (hce : mj_ce G ρ A' H' c0 a0 x) (z : H'.size = H.size) (hq : ∀ q, q ≠ a0 → H'[q]? = H[q]?) (hC : mj_Ch A A' c0 i)
    (hcl : ∀ q, gP A' c0 i = some q → gS A q ≠ none) (hr : r32 (gI A' c0 i)) (h : (∀ v ∈ st, mj_ok ρ v) → ∀ v ∈ st', mj_ok ρ v) : mj_St G M ρ0 ρ A' kc ks L st' s H' (locs ++ [⟨a0, k⟩]) ls cells slots := by
  refine ⟨S.1, S.2.1, S.2.2.1, ?_, S.2.2.2.2.1.put z hq hz, S.2.2.2.2.2.1, h S.2.2.2.2.2.2⟩
  refine S.2.2.2.1.put hs ha hce hq hC.1 (fun c j hc => hC.2.1 c j fun z => hc z.1) (fun c j hc => hC.2.2 c j fun z => hc z.1) (fun j q hj => ?_) fun j => ?_
  · by_cases e : j = i
    · subst e; exact hcl q hj
    · rw [hC.2.2 c0 j fun z => e z.2] at hj
      exact S.2.2.2.1.2.2.1 c0 j q (by rw [hs]; exact fun z => by cases z) hj
  · by_cases e : j = i
    · subst e; exact hr
    · rw [hC.2.1 c0 j fun z => e z.2]; exact S.2.2.2.1.2.2.2 c0 j
/-- what a putfield needs -/
theorem mx_putf {A' : mj_M} {idx ci k : Nat} {fin : Bool} {c : Int} {v : mj_V} (hd : decode (mi_code M) pc = .ok (.putfield idx, 3)) (hF : mj_Fld (mi_own M) idx ci k fin) (hs : gS A c = some (.inl ci)) (hfin : fin = false ∨ (mi_name M = "<init>" ∧ ∃ r : vw_C, mj_cl[ci]? = some r ∧ r.1 = mi_own M))
    (hv : ∀ ρ, mj_fv ρ A' ci c k = mj_c ρ v) (hn : ∀ ρ, narrow (mj_fT ci k) (mj_c ρ v) = mj_c ρ v ∧ fits (mj_fT ci k) (mj_c ρ v) = true) (hC : mj_Ch A A' c (k : Int)) (hcl : ∀ q, v = mR (some q) → gS A q ≠ none → gP A' c k = some q) (hcl2 : ∀ q, gP A' c k = some q → v = mR (some q) ∨ gP A c k = some q) (hr : r32 (gI A c (k : Int)) → r32 (gI A' c (k : Int)))
    (kk : mj_X G M Q A' kc ks (pc + 3) L st) : mj_X G M Q A kc ks pc L (v :: mR (some c) :: st) := by
  intro p e s m args below meth c9 H locs ls ρ0 ρ cells slots F S
  obtain ⟨r, hr1, hk, hlink, hfin1, hdecl⟩ := hF
  obtain ⟨a, ha, hz, r', hr', cell, q1, q2, q3, q4⟩ := S.2.2.2.1.sh hs
  cases hr1.symm.trans hr'
  obtain ⟨hU, hN, hY⟩ := mj_cls hr1
  have hts := F.2.2.2.2.2.2.2.2.1
  have hK := F.2.2.2.2.2.2.2.2.2.1
  have hap := va_apart (own := mi_own M) hts hU (mj_fT ci) hY hN hK hr1
  obtain ⟨hS, hfc, kC, hkC, hkind⟩ := hK.1 ci r hr1
  obtain ⟨cf, kf, fi, f, hi, hsl⟩ := hS k hk
  have hlay := hts _ (hU _ (u_in_lay hk))
  unfold u_lay at hlay
  have hst := (u_facts hfc hkC (u_lays hts hU hk) hi).1
  have hvok := (List.forall_mem_cons.mp S.2.2.2.2.2.2).1
  show W _ _ _ _ _ _ _ _ _ _ _ _ _ _ _ (F0 m pc ls (mj_c ρ v :: mj_c ρ (mR (some c)) :: st.map (mj_c ρ)))
  rw [mj_cR ha]
  have fin' : ∀ (H' : Heap), H'[a]? = some (cell.setSlot f.slot (mj_c ρ v)) → H'.size = H.size → (∀ q, q ≠ a → H'[q]? = H[q]?) → W p G.1 e (mi_rm M) s m args below meth c9 H' (locs ++ [⟨a, f.slot⟩]) cells slots (Q ρ0 args s below) (F0 m (pc + 3) ls (st.map (mj_c ρ))) := by
    intro H' e1 e2 e3
    rw [hsl] at e1
    refine kk p e s m args below meth c9 H' _ ls ρ0 ρ cells slots F (S.put hs ha hz ⟨r, hr1, t_OB.to (V := updV (mj_fv ρ A ci c) k (mj_c ρ v)) ⟨_, e1, q2, q3, t_set q4 hap hk _⟩ fun j _ => ?_⟩ e2 e3 hC (fun q hq => ?_) (hr (S.2.2.2.1.2.2.2 c k)) fun h => (List.forall_mem_cons.mp (List.forall_mem_cons.mp h).2).2)
    · unfold updV
      by_cases ej : j = k
      · rw [if_pos ej, ej, hv]
      · rw [if_neg ej, mj_fv_ne hC ej]
    · rcases hcl2 q hq with h1 | h1
      · subst h1; exact mj_okS S.2.2.2.1 hvok
      · exact S.2.2.2.1.2.2.1 c k q (by rw [hs]; exact fun z => by cases z) h1
  rcases Bool.eq_false_or_eq_true fin with hf | hf
  · subst hf
    rw [if_pos hfin1] at hlay
    obtain ⟨hname, r9, hr9, hown9⟩ : mi_name M = "<init>" ∧ ∃ r : vw_C, mj_cl[ci]? = some r ∧ r.1 = mi_own M := by
      rcases hfin with h | h
      · cases h
      · exact h
    cases hr1.symm.trans hr9
    have hcf : m.cls = cf := by
      obtain ⟨_, _, c', _, _, _, -, -, hf', -, -, -, hown2, -⟩ := Cond.laysFinal_spec hlay
      have e1 : c' = cf := by have := hi.symm.trans hf'; simp at this; exact this.1.symm
      rw [hdecl, hown9] at hown2
      rw [← e1]; exact Option.some.inj (F.2.2.2.1.symm.trans hown2)
    have h6 := u_fits hfc hkC hkind (Or.inr hlay) hi (hY k hk) (hn ρ).1 (hn ρ).2
    exact W.putFinK F.1 F.2.1 F.2.2.2.1 (hts _ hlink) hi hst hcf (F.2.2.2.2.2.2.1.trans hname) (by rw [q2]; exact h6) q1 q3 (by rw [hsl]; exact k2_hasslot (q4 k hk)) rfl rfl hd fin'
  · subst hf
    rw [if_neg (by rw [hfin1]; decide)] at hlay
    have h6 := u_store hfc hkC hkind hlay hi (hY k hk) (hn ρ).1 (hn ρ).2
    exact W.putK F.1 F.2.1 (f := f) ⟨F.2.2.2.1, hts _ hlink, ⟨_, _, _, hi⟩, hst⟩ (by rw [q2]; exact h6) q1 q3 (by rw [hsl]; exact k2_hasslot (q4 k hk)) rfl rfl hd fin'
theorem mj_nB {x : Int} (h : x = 0 ∨ x = 1) : narrow .boolean (.int (Int32.ofInt x)) = .int (Int32.ofInt x) ∧ fits .boolean (.int (Int32.ofInt x)) = true := by
  rcases h with rfl | rfl <;> decide +kernel
/-- a put of an int (hb: of a boolean, 0 or 1) -/
theorem mx_putI {idx ci k : Nat} {fin : Bool} (kz : Int) {c x : Int} (hd : decode (mi_code M) pc = .ok (.putfield idx, 3)) (hF : mj_Fld (mi_own M) idx ci k fin) (hkz : (k : Int) = kz) (hs : gS A c = some (.inl ci)) (hfin : fin = false ∨ (mi_name M = "<init>" ∧ ∃ r : vw_C, mj_cl[ci]? = some r ∧ r.1 = mi_own M)) (ht : mj_fT ci k = .int ∨ (mj_fT ci k = .boolean ∧ (x = 0 ∨ x = 1))) (hx : r32 x)
    (kk : mj_X G M Q (sI A c kz x) kc ks (pc + 3) L st) : mj_X G M Q A kc ks pc L (mI x :: mR (some c) :: st) := by
  subst hkz
  have hrf : mj_rf ci k = false := by unfold mj_rf; rcases ht with h | h <;> simp [h]
  refine mx_putf hd hF hs hfin (fun ρ => by rw [mj_fvI hrf, gI_sIs]) (fun ρ => ?_) mj_Ch.I (fun q h => by cases h) (fun q h => Or.inr h) (fun _ => by rw [gI_sIs]; exact hx) kk
  rcases ht with h | ⟨h, h2⟩
  · rw [h]; exact ⟨rfl, rfl⟩
  · rw [h]; exact mj_nB h2
/-- a put of a reference -/
theorem mx_putP {idx ci k : Nat} {fin : Bool} (kz : Int) {c : Int} {v : Option Int} (hd : decode (mi_code M) pc = .ok (.putfield idx, 3)) (hF : mj_Fld (mi_own M) idx ci k fin) (hkz : (k : Int) = kz) (hs : gS A c = some (.inl ci)) (hfin : fin = false ∨ (mi_name M = "<init>" ∧ ∃ r : vw_C, mj_cl[ci]? = some r ∧ r.1 = mi_own M)) (ht : (∃ C, mj_fT ci k = .object C) ∨ ∃ t, mj_fT ci k = .array t)
    (kk : mj_X G M Q (sP A c kz v) kc ks (pc + 3) L st) : mj_X G M Q A kc ks pc L (mR v :: mR (some c) :: st) := by
  subst hkz
  have hrf : mj_rf ci k = true := by unfold mj_rf; rcases ht with ⟨C, h⟩ | ⟨C, h⟩ <;> simp [h]
  refine mx_putf hd hF hs hfin (fun ρ => by rw [mj_fvP hrf, gP_sPs]) (fun ρ => ?_) mj_Ch.P (fun q h _ => by rw [gP_sP, if_pos ⟨rfl, rfl⟩]; cases h; rfl) (fun q h => by rw [gP_sP, if_pos ⟨rfl, rfl⟩] at h; exact Or.inl (by rw [h])) id kk
  rcases ht with ⟨C, h⟩ | ⟨C, h⟩ <;> rw [h] <;> cases v <;> exact ⟨rfl, rfl⟩
end R2
end MJC
end
section
/-! THE SMALL MACHINE, 4: arrays and new cells -/
section MJD
variable {G : mj_G} {M : mj_I} {Q : mj_Q} {A : mj_M} {kc ks pc : Nat} {L : List (Option mj_V)} {st : List mj_V}
theorem mj_avI {ρ : mj_P} {A : mj_M} {t j : Nat} {c : Int} (h : t < 2) : mj_av ρ A c t j = .int (Int32.ofInt (gI A c (j : Int))) := by unfold mj_av; rw [if_neg (by omega), if_neg (by omega)]; rfl
theorem mj_avZ {ρ : mj_P} {A : mj_M} {j : Nat} {c : Int} : mj_av ρ A c 2 j = .long (Int64.ofInt (gI A c (j : Int))) := by unfold mj_av; rw [if_neg (by omega), if_pos rfl]; rfl
theorem mj_avP {ρ : mj_P} {A : mj_M} {t j : Nat} {c : Int} (h : 3 ≤ t) : mj_av ρ A c t j = mj_c ρ (mR (gP A c (j : Int))) := by unfold mj_av; rw [if_pos h]
theorem mj_sz {n : Nat} (cA : ClassId) (f : Nat → Value) {i : Int} {m : Int} (hm : m.toNat = n) (h0 : 0 ≤ i) (h1 : i < m) (hn : m < 2147483648) : ¬ (Int32.ofInt i < 0 ∨ (arrV cA n f).slots.size ≤ (Int32.ofInt i).toNatClampNeg) := by
  rw [arrV_size, ← hm]; exact r32_in h0 h1 ⟨by omega, by omega⟩
theorem mj_rd {n : Nat} (cA : ClassId) (f : Nat → Value) {i : Int} {m : Int} (hm : m.toNat = n) (h0 : 0 ≤ i) (h1 : i < m) (hn : m < 2147483648) : (arrV cA n f).slots[(Int32.ofInt i).toNatClampNeg]? = some (f i.toNat) := by
  rw [r32_nat ⟨by omega, by omega⟩, arrV_read _ _ (by omega)]
theorem mx_iald {c i n : Int} (hd : decode (mi_code M) pc = .ok (.iaload, 1)) (hs : gS A c = some (.inr (0, n))) (h0 : 0 ≤ i) (h1 : i < n) (kk : mj_X G M Q A kc ks (pc + 1) L (mI (gI A c i) :: st)) : mj_X G M Q A kc ks pc L (mI i :: mR (some c) :: st) := by
  intro p e s m args below meth c9 H locs ls ρ0 ρ cells slots F S
  obtain ⟨a, ha, hz, ht, hn0, hn, hcell⟩ := S.2.2.2.1.sh hs
  show W _ _ _ _ _ _ _ _ _ _ _ _ _ _ _ (F0 m pc ls (.int (Int32.ofInt i) :: mj_c ρ (mR (some c)) :: st.map (mj_c ρ)))
  rw [mj_cR ha]
  refine W.iald F.1 F.2.1 hcell ((F.2.2.2.2.2.2.2.2.2.2.1 0 (by omega)).1 _ _) (fun h => by cases h) (mj_sz _ _ rfl h0 h1 hn) (mj_rd _ _ rfl h0 h1 hn) rfl rfl hd ?_
  rw [mj_avI (by omega), show (i.toNat : Int) = i by omega]
  exact kk p e s m args below meth c9 H locs ls ρ0 ρ cells slots F (S.to1 fun h => List.forall_mem_cons.mpr ⟨mj_okI _, (List.forall_mem_cons.mp (List.forall_mem_cons.mp h).2).2⟩)
theorem mx_zald {c i n : Int} (hd : decode (mi_code M) pc = .ok (.baload, 1)) (hs : gS A c = some (.inr (1, n))) (h0 : 0 ≤ i) (h1 : i < n) (kk : mj_X G M Q A kc ks (pc + 1) L (mI (gI A c i) :: st)) : mj_X G M Q A kc ks pc L (mI i :: mR (some c) :: st) := by
  intro p e s m args below meth c9 H locs ls ρ0 ρ cells slots F S
  obtain ⟨a, ha, hz, ht, hn0, hn, hcell⟩ := S.2.2.2.1.sh hs
  show W _ _ _ _ _ _ _ _ _ _ _ _ _ _ _ (F0 m pc ls (.int (Int32.ofInt i) :: mj_c ρ (mR (some c)) :: st.map (mj_c ρ)))
  rw [mj_cR ha]
  refine W.zald F.1 F.2.1 hcell ((F.2.2.2.2.2.2.2.2.2.2.1 1 (by omega)).1 _ _) (fun h => by cases h) (mj_sz _ _ rfl h0 h1 hn) (mj_rd _ _ rfl h0 h1 hn) rfl rfl hd ?_
  rw [mj_avI (by omega), show (i.toNat : Int) = i by omega]
  exact kk p e s m args below meth c9 H locs ls ρ0 ρ cells slots F (S.to1 fun h => List.forall_mem_cons.mpr ⟨mj_okI _, (List.forall_mem_cons.mp (List.forall_mem_cons.mp h).2).2⟩)
theorem mx_lald {c i n : Int} (hd : decode (mi_code M) pc = .ok (.laload, 1)) (hs : gS A c = some (.inr (2, n))) (h0 : 0 ≤ i) (h1 : i < n) (kk : mj_X G M Q A kc ks (pc + 1) L (mZ (gI A c i) :: st)) : mj_X G M Q A kc ks pc L (mI i :: mR (some c) :: st) := by
  intro p e s m args below meth c9 H locs ls ρ0 ρ cells slots F S
  obtain ⟨a, ha, hz, ht, hn0, hn, hcell⟩ := S.2.2.2.1.sh hs
  show W _ _ _ _ _ _ _ _ _ _ _ _ _ _ _ (F0 m pc ls (.int (Int32.ofInt i) :: mj_c ρ (mR (some c)) :: st.map (mj_c ρ)))
  rw [mj_cR ha]
  refine W.lald F.1 F.2.1 hcell ((F.2.2.2.2.2.2.2.2.2.2.1 2 (by omega)).1 _ _) (fun h => by cases h) (mj_sz _ _ rfl h0 h1 hn) (mj_rd _ _ rfl h0 h1 hn) rfl rfl hd ?_
  rw [mj_avZ, show (i.toNat : Int) = i by omega]
  exact kk p e s m args below meth c9 H locs ls ρ0 ρ cells slots F (S.to1 fun h => List.forall_mem_cons.mpr ⟨mj_okZ _, (List.forall_mem_cons.mp (List.forall_mem_cons.mp h).2).2⟩)
theorem mj_tyR {t : Nat} (h3 : 3 ≤ t) (h7 : t < 7) : mj_ty t = .object (mj_on t) := by
  rcases (show t = 3 ∨ t = 4 ∨ t = 5 ∨ t = 6 by omega) with rfl | rfl | rfl | rfl <;> rfl
theorem mx_aald {c i n : Int} {t : Nat} (hd : decode (mi_code M) pc = .ok (.aaload, 1)) (hs : gS A c = some (.inr (t, n))) (h3 : 3 ≤ t) (h0 : 0 ≤ i) (h1 : i < n) (kk : mj_X G M Q A kc ks (pc + 1) L (mR (gP A c i) :: st)) : mj_X G M Q A kc ks pc L (mI i :: mR (some c) :: st) := by
  intro p e s m args below meth c9 H locs ls ρ0 ρ cells slots F S
  obtain ⟨a, ha, hz, ht, hn0, hn, hcell⟩ := S.2.2.2.1.sh hs
  show W _ _ _ _ _ _ _ _ _ _ _ _ _ _ _ (F0 m pc ls (.int (Int32.ofInt i) :: mj_c ρ (mR (some c)) :: st.map (mj_c ρ)))
  rw [mj_cR ha]
  refine W.aald F.1 F.2.1 hcell ((F.2.2.2.2.2.2.2.2.2.2.1 t ht).1 _ _) (by rw [mj_tyR h3 ht]; rfl) (fun h => by cases h) (mj_sz _ _ rfl h0 h1 hn) (mj_rd _ _ rfl h0 h1 hn) rfl rfl hd ?_
  rw [mj_avP h3, show (i.toNat : Int) = i by omega]
  exact kk p e s m args below meth c9 H locs ls ρ0 ρ cells slots F (S.to1 fun h => List.forall_mem_cons.mpr ⟨mj_okR S.2.2.2.1 fun q hq => S.2.2.2.1.2.2.1 c i q (by rw [hs]; exact fun z => by cases z) hq, (List.forall_mem_cons.mp (List.forall_mem_cons.mp h).2).2⟩)
/-- the array's cell behind a store -/
theorem mj_wr {ρ : mj_P} {A A' : mj_M} {H' : Heap} {a t : Nat} {c i n : Int} {v : Value} (ht : t < 7) (hn0 : 0 ≤ n) (hn : n < 2147483648) (h0 : 0 ≤ i) (h1 : i < n) (hC : mj_Ch A A' c i) (hv : mj_av ρ A' c t i.toNat = v) (e : H'[a]? = some ((arrV (G.2.2.2 t) n.toNat (mj_av ρ A c t)).setSlot (Int32.ofInt i).toNatClampNeg v)) : mj_ce G ρ A' H' c a (.inr (t, n)) := by
  refine ⟨ht, hn0, hn, ?_⟩
  rw [e, arrV_store, r32_nat ⟨by omega, by omega⟩]
  congr 2
  funext j
  unfold updV
  by_cases ej : j = i.toNat
  · rw [if_pos ej, ej, hv]
  · rw [if_neg ej]
    have hC' : mj_Ch A A' c (i.toNat : Int) := by rw [show (i.toNat : Int) = i by omega]; exact hC
    exact (mj_av_ne hC' ej).symm
theorem mx_iast {c i n x : Int} (hd : decode (mi_code M) pc = .ok (.iastore, 1)) (hs : gS A c = some (.inr (0, n))) (h0 : 0 ≤ i) (h1 : i < n) (hx : r32 x) (kk : mj_X G M Q (sI A c i x) kc ks (pc + 1) L st) : mj_X G M Q A kc ks pc L (mI x :: mI i :: mR (some c) :: st) := by
  intro p e s m args below meth c9 H locs ls ρ0 ρ cells slots F S
  obtain ⟨a, ha, hz, ht, hn0, hn, hcell⟩ := S.2.2.2.1.sh hs
  show W _ _ _ _ _ _ _ _ _ _ _ _ _ _ _ (F0 m pc ls (.int (Int32.ofInt x) :: .int (Int32.ofInt i) :: mj_c ρ (mR (some c)) :: st.map (mj_c ρ)))
  rw [mj_cR ha]
  refine W.iast F.1 F.2.1 hcell ((F.2.2.2.2.2.2.2.2.2.2.1 0 (by omega)).1 _ _) (fun h => by cases h) (mj_sz _ _ rfl h0 h1 hn) rfl rfl hd fun H1 e1 z1 o1 => ?_
  exact kk p e s m args below meth c9 H1 _ ls ρ0 ρ cells slots F (S.put hs ha hz (mj_wr ht hn0 hn h0 h1 mj_Ch.I (by rw [mj_avI (by omega), show (i.toNat : Int) = i by omega, gI_sIs]) e1) z1 o1 mj_Ch.I (fun q hq => S.2.2.2.1.2.2.1 c i q (by rw [hs]; exact fun z => by cases z) hq) (by rw [gI_sIs]; exact hx) fun h => (List.forall_mem_cons.mp (List.forall_mem_cons.mp (List.forall_mem_cons.mp h).2).2).2)
theorem mx_zast {c i n x : Int} (hd : decode (mi_code M) pc = .ok (.bastore, 1)) (hs : gS A c = some (.inr (1, n))) (h0 : 0 ≤ i) (h1 : i < n) (hx : x = 0 ∨ x = 1) (kk : mj_X G M Q (sI A c i x) kc ks (pc + 1) L st) : mj_X G M Q A kc ks pc L (mI x :: mI i :: mR (some c) :: st) := by
  intro p e s m args below meth c9 H locs ls ρ0 ρ cells slots F S
  obtain ⟨a, ha, hz, ht, hn0, hn, hcell⟩ := S.2.2.2.1.sh hs
  show W _ _ _ _ _ _ _ _ _ _ _ _ _ _ _ (F0 m pc ls (.int (Int32.ofInt x) :: .int (Int32.ofInt i) :: mj_c ρ (mR (some c)) :: st.map (mj_c ρ)))
  rw [mj_cR ha]
  refine W.zast F.1 F.2.1 hcell ((F.2.2.2.2.2.2.2.2.2.2.1 1 (by omega)).1 _ _) (fun h => by cases h) (mj_sz _ _ rfl h0 h1 hn) rfl rfl hd fun H1 e1 z1 o1 => ?_
  rw [(mj_nB hx).1] at e1
  exact kk p e s m args below meth c9 H1 _ ls ρ0 ρ cells slots F (S.put hs ha hz (mj_wr ht hn0 hn h0 h1 mj_Ch.I (by rw [mj_avI (by omega), show (i.toNat : Int) = i by omega, gI_sIs]) e1) z1 o1 mj_Ch.I (fun q hq => S.2.2.2.1.2.2.1 c i q (by rw [hs]; exact fun z => by cases z) hq) (by rw [gI_sIs]; rcases hx with rfl | rfl <;> exact ⟨by decide, by decide⟩) fun h => (List.forall_mem_cons.mp (List.forall_mem_cons.mp (List.forall_mem_cons.mp h).2).2).2)
theorem mx_last {c i n x : Int} (hd : decode (mi_code M) pc = .ok (.lastore, 1)) (hs : gS A c = some (.inr (2, n))) (h0 : 0 ≤ i) (h1 : i < n) (hx : r32 x) (kk : mj_X G M Q (sI A c i x) kc ks (pc + 1) L st) : mj_X G M Q A kc ks pc L (mZ x :: mI i :: mR (some c) :: st) := by
  intro p e s m args below meth c9 H locs ls ρ0 ρ cells slots F S
  obtain ⟨a, ha, hz, ht, hn0, hn, hcell⟩ := S.2.2.2.1.sh hs
  show W _ _ _ _ _ _ _ _ _ _ _ _ _ _ _ (F0 m pc ls (.long (Int64.ofInt x) :: .int (Int32.ofInt i) :: mj_c ρ (mR (some c)) :: st.map (mj_c ρ)))
  rw [mj_cR ha]
  refine W.last F.1 F.2.1 hcell ((F.2.2.2.2.2.2.2.2.2.2.1 2 (by omega)).1 _ _) (fun h => by cases h) (mj_sz _ _ rfl h0 h1 hn) rfl rfl hd fun H1 e1 z1 o1 => ?_
  exact kk p e s m args below meth c9 H1 _ ls ρ0 ρ cells slots F (S.put hs ha hz (mj_wr ht hn0 hn h0 h1 mj_Ch.I (by rw [mj_avZ, show (i.toNat : Int) = i by omega, gI_sIs]) e1) z1 o1 mj_Ch.I (fun q hq => S.2.2.2.1.2.2.1 c i q (by rw [hs]; exact fun z => by cases z) hq) (by rw [gI_sIs]; exact hx) fun h => (List.forall_mem_cons.mp (List.forall_mem_cons.mp (List.forall_mem_cons.mp h).2).2).2)
/-- the class whose objects an array of kind t holds -/
def mj_tc (t : Nat) : Nat := if t = 3 then 0 else if t = 4 then 2 else if t = 5 then 4 else 5
theorem mj_tc_ok {t : Nat} (h3 : 3 ≤ t) (h7 : t < 7) : ∃ r : vw_C, mj_cl[mj_tc t]? = some r ∧ r.1 = mj_on t := by
  rcases (show t = 3 ∨ t = 4 ∨ t = 5 ∨ t = 6 by omega) with rfl | rfl | rfl | rfl <;> exact ⟨_, rfl, rfl⟩
theorem mx_aast {c i n v : Int} {t : Nat} (hd : decode (mi_code M) pc = .ok (.aastore, 1)) (hs : gS A c = some (.inr (t, n))) (h3 : 3 ≤ t) (h0 : 0 ≤ i) (h1 : i < n) (hv : gS A v = some (.inl (mj_tc t))) (kk : mj_X G M Q (sP A c i (some v)) kc ks (pc + 1) L st) : mj_X G M Q A kc ks pc L (mR (some v) :: mI i :: mR (some c) :: st) := by
  intro p e s m args below meth c9 H locs ls ρ0 ρ cells slots F S
  obtain ⟨a, ha, hz, ht, hn0, hn, hcell⟩ := S.2.2.2.1.sh hs
  obtain ⟨b, hb, hzb, r, hr, cellV, g1, g2, g3, -⟩ := S.2.2.2.1.sh hv
  obtain ⟨r', hr', hrn⟩ := mj_tc_ok h3 ht
  cases hr.symm.trans hr'
  have hcls := (F.2.2.2.2.2.2.2.2.2.1.1 _ r hr).2
  have hRA := (F.2.2.2.2.2.2.2.2.2.2.1 t ht).2
  rw [mj_tyR h3 ht] at hRA
  obtain ⟨kA, comp, k1, k2, k3, -⟩ := hRA
  have hcomp : comp = G.2.2.1.1 (mj_tc t) := Option.some.inj (k3.symm.trans (by rw [← hrn]; exact hcls.1))
  subst hcomp
  obtain ⟨kC, hkC, -⟩ := hcls.2
  show W _ _ _ _ _ _ _ _ _ _ _ _ _ _ _ (F0 m pc ls (mj_c ρ (mR (some v)) :: .int (Int32.ofInt i) :: mj_c ρ (mR (some c)) :: st.map (mj_c ρ)))
  rw [mj_cR ha, mj_cR hb]
  have hsz := mj_sz (G.2.2.2 t) (mj_av ρ A c t) rfl h0 h1 hn
  refine W.aast F.1 F.2.1 hcell (fun q h => by cases h) (fun h => by cases h) k1 k2 rfl hkC ⟨fun h => hsz (Or.inl h), Nat.not_le.mp fun h => hsz (Or.inr h)⟩ g1 (fun q h => by rw [g3] at h; cases h) (by rw [g2]; exact hkC) (by rw [g2]; exact va_assign hcls) rfl rfl hd fun H1 e1 z1 o1 => ?_
  exact kk p e s m args below meth c9 H1 _ ls ρ0 ρ cells slots F (S.put hs ha hz (mj_wr ht hn0 hn h0 h1 mj_Ch.P (by rw [mj_avP h3, show (i.toNat : Int) = i by omega, gP_sPs, mj_cR hb]) e1) z1 o1 mj_Ch.P (fun q hq => by rw [gP_sPs] at hq; cases hq; rw [hv]; exact fun z => by cases z) (S.2.2.2.1.2.2.2 c i) fun h => (List.forall_mem_cons.mp (List.forall_mem_cons.mp (List.forall_mem_cons.mp h).2).2).2)
theorem mx_alen {c n : Int} {t : Nat} (hd : decode (mi_code M) pc = .ok (.arraylength, 1)) (hs : gS A c = some (.inr (t, n))) (kk : mj_X G M Q A kc ks (pc + 1) L (mI n :: st)) : mj_X G M Q A kc ks pc L (mR (some c) :: st) := by
  intro p e s m args below meth c9 H locs ls ρ0 ρ cells slots F S
  obtain ⟨a, ha, hz, ht, hn0, hn, hcell⟩ := S.2.2.2.1.sh hs
  show W _ _ _ _ _ _ _ _ _ _ _ _ _ _ _ (F0 m pc ls (mj_c ρ (mR (some c)) :: st.map (mj_c ρ)))
  rw [mj_cR ha]
  refine W.alen (n := Int32.ofInt n) F.1 F.2.1 hcell ((F.2.2.2.2.2.2.2.2.2.2.1 t ht).1 _ _) (by rw [arrV_size]; show Int32.ofNat n.toNat = _; rw [← Int32.ofInt_eq_ofNat, show ((n.toNat : Nat) : Int) = n by omega]) rfl rfl hd ?_
  exact kk p e s m args below meth c9 H locs ls ρ0 ρ cells slots F (S.to1 fun h => List.forall_mem_cons.mpr ⟨mj_okI _, (List.forall_mem_cons.mp h).2⟩)
theorem mj_map_ext {ρ ρ' : mj_P} {st : List mj_V} (h : ∀ v ∈ st, mj_ok ρ v) (he : mj_ext ρ ρ') : st.map (mj_c ρ') = st.map (mj_c ρ) := List.map_congr_left fun v hv => mj_c_ext (h v hv) he
/-- a new cell: what the walk knows behind it -/
theorem mj_St.new {ρ0 ρ : mj_P} {st st' : List mj_V} {s : State} {H H' : Heap} {locs : List Loc} {ls : Array Slot} {cells slots n : Nat} (S : mj_St G M ρ0 ρ A (kc + 1) (ks + n) L st s H locs ls cells slots) {c0 : Int} {x : Nat ⊕ (Nat × Int)} (hs : gS A c0 = none) (hB : G.2.1 ≤ s.heap.size) (hce : mj_ce G (mj_up ρ c0 H.size) (sN A c0 x) H' c0 H.size x) (z : H'.size = H.size + 1) (hq : ∀ q, q < H.size → H'[q]? = H[q]?) (h : (∀ v ∈ st, mj_ok ρ v) → ∀ v ∈ st', mj_ok ρ v) :
    mj_St G M ρ0 (mj_up ρ c0 H.size) (sN A c0 x) kc ks L (mR (some c0) :: st') s H' locs ls (cells + 1) (slots + n) ∧ st'.map (mj_c (mj_up ρ c0 H.size)) = st'.map (mj_c ρ) ∧ mj_c (mj_up ρ c0 H.size) (mR (some c0)) = .ref H.size := by
  obtain ⟨h1, h2⟩ := S.2.2.2.1.new hs (Nat.le_trans hB S.2.2.2.2.1.1) hce hq
  have hst := h S.2.2.2.2.2.2
  have hup : mj_up ρ c0 H.size c0 = some H.size := by simp [mj_up]
  refine ⟨⟨S.1.tr h2, by have := S.2.1; omega, by have := S.2.2.1; omega, h1, ⟨Nat.le_trans S.2.2.2.2.1.1 (by omega), fun q g1 g2 => (hq q (Nat.lt_of_lt_of_le g1 S.2.2.2.2.1.1)).trans (S.2.2.2.2.1.2.1 q g1 g2), S.2.2.2.2.1.2.2⟩, S.2.2.2.2.2.1.ext h2, List.forall_mem_cons.mpr ⟨(fun c hc => by cases hc; rw [hup]; exact fun z => (by cases z)), fun v hv => (hst v hv).ext h2⟩⟩, mj_map_ext hst h2, mj_cR hup⟩
def mj_New (own : String) (idx ci n : Nat) : Prop := ∃ r : vw_C, mj_cl[ci]? = some r ∧ r.2.2 = n ∧ Cond.classLink own idx r.1 ∈ mj_TB ∧ Cond.instantiable r.1 n ∈ mj_TB ∧ Cond.initialized r.1 ∈ mj_TB
theorem mx_new {idx ci n : Nat} (c0 : Int) (hd : decode (mi_code M) pc = .ok (.new idx, 3)) (hN : mj_New (mi_own M) idx ci n) (hs : gS A c0 = none) (kk : mj_X G M Q (sN A c0 (.inl ci)) kc ks (pc + 3) L (mR (some c0) :: st)) : mj_X G M Q A (kc + 1) (ks + n) pc L st := by
  intro p e s m args below meth c9 H locs ls ρ0 ρ cells slots F S
  obtain ⟨r, hr, hn, hcl, hins, hini⟩ := hN
  subst hn
  obtain ⟨hU, hNm, hY⟩ := mj_cls hr
  have hts := F.2.2.2.2.2.2.2.2.1
  have hKn := F.2.2.2.2.2.2.2.2.2.1.1 ci r hr
  refine W.newcK F.1 F.2.1 F.2.2.2.1 (hts _ hcl) (hts _ hins) (hts _ hini) rfl hd (by have := S.2.1; omega) (by have := S.2.2.1; omega) hKn.2.1 rfl fun H1 kC hkC e1 z1 o1 => ?_
  obtain ⟨S', e2, e3⟩ := S.new (st' := st) (x := .inl ci) hs F.2.2.2.2.2.2.2.2.2.2.2.2.2.2.2.2.2.1 ⟨r, hr, (u_born (mj_fT ci) hts hU hKn hkC e1 hY).to fun j hj => by
    rw [mj_fT_ok ci r hr j hj]
    by_cases hf : mj_rf ci j = true
    · rw [if_pos hf, mj_fvP hf, gP_sN, if_pos rfl]; rfl
    · rw [if_neg hf, mj_fvI (by simpa using hf), gI_sN, if_pos rfl]; rfl⟩ z1 o1 id
  have k9 := kk p e s m args below meth c9 H1 locs ls ρ0 _ _ _ F S'
  rw [List.map_cons, e2, e3] at k9
  exact k9
theorem mj_newS {t : Nat} (ht : t < 3) {U : State} {cA cB : ClassId} (h : va_RA U cA (mj_ty t)) (h' : U.vm.findClass ("[" ++ (mj_ty t).toString) = some cB) : cB = cA := by
  rcases (show t = 0 ∨ t = 1 ∨ t = 2 by omega) with rfl | rfl | rfl <;> exact Option.some.inj (h'.symm.trans h)
theorem mx_newa {atype : ArrayType} {t : Nat} (c0 : Int) {n : Int} {n1 : Nat} (hd : decode (mi_code M) pc = .ok (.newarray atype, 2)) (ht : t < 3) (hat : newarray.typeOf atype = mj_ty t) (hw : Cond.arrayClass (mj_ty t) ∈ mj_TB) (hs : gS A c0 = none) (hn : n = (n1 : Int)) (hn1 : n1 ≤ 1000000) (kk : mj_X G M Q (sN A c0 (.inr (t, n))) kc ks (pc + 2) L (mR (some c0) :: st)) : mj_X G M Q A (kc + 1) (ks + n1) pc L (mI n :: st) := by
  intro p e s m args below meth c9 H locs ls ρ0 ρ cells slots F S
  have hts := F.2.2.2.2.2.2.2.2.1
  have hr : r32 n := ⟨by omega, by omega⟩
  have hB := F.2.2.2.2.2.2.2.2.2.2.1 t (by omega)
  show W _ _ _ _ _ _ _ _ _ _ _ _ _ _ _ (F0 m pc ls (.int (Int32.ofInt n) :: st.map (mj_c ρ)))
  have hcb : componentBytes (newarray.typeOf atype) ≤ 8 := by cases atype <;> decide
  refine va_newaK F.1 F.2.1 (by rw [hat]; exact hts _ hw) rfl hd rfl (by rw [r32_lt0 hr]; omega) (N := n1) (by rw [r32_nat hr]; omega) (by have := Nat.mul_le_mul_left n1 hcb; omega) (by have := S.2.1; omega) (by have := S.2.2.1; omega) rfl fun H1 cA e1 z1 o1 hAr hNm => ?_
  rw [hat] at hNm e1
  have hcA := mj_newS ht hB.2 hNm
  subst hcA
  obtain ⟨S', e2, e3⟩ := S.new (st' := st) (x := .inr (t, n)) hs F.2.2.2.2.2.2.2.2.2.2.2.2.2.2.2.2.2.1 ⟨by omega, by omega, by omega, by
    rw [e1, show n.toNat = n1 by omega]
    congr 2
    funext j
    rcases (show t = 0 ∨ t = 1 ∨ t = 2 by omega) with rfl | rfl | rfl
    · rw [mj_avI (by omega), gI_sN, if_pos rfl]; rfl
    · rw [mj_avI (by omega), gI_sN, if_pos rfl]; rfl
    · rw [mj_avZ, gI_sN, if_pos rfl]; rfl⟩ z1 o1 (fun h => (List.forall_mem_cons.mp h).2)
  have k9 := kk p e s m args below meth c9 H1 locs ls ρ0 _ _ _ F S'
  rw [List.map_cons, e2, e3] at k9
  exact k9
theorem mx_anew {idx t : Nat} (c0 : Int) {n : Int} {n1 : Nat} (hd : decode (mi_code M) pc = .ok (.anewarray idx, 3)) (h3 : 3 ≤ t) (h7 : t < 7) (hw : Cond.classLink (mi_own M) idx (mj_on t) ∈ mj_TB) (hs : gS A c0 = none) (hn : n = (n1 : Int)) (hn1 : n1 ≤ 1000000) (kk : mj_X G M Q (sN A c0 (.inr (t, n))) kc ks (pc + 3) L (mR (some c0) :: st)) : mj_X G M Q A (kc + 1) (ks + n1) pc L (mI n :: st) := by
  intro p e s m args below meth c9 H locs ls ρ0 ρ cells slots F S
  have hts := F.2.2.2.2.2.2.2.2.1
  have hr : r32 n := ⟨by omega, by omega⟩
  have hB := F.2.2.2.2.2.2.2.2.2.2.1 t h7
  have hover := F.2.2.2.2.2.2.2.2.2.2.2.2.2.2.2.2.1 t h3 h7
  have hnn : (Int32.ofInt n).toNatClampNeg = n1 := by rw [r32_nat hr]; omega
  show W _ _ _ _ _ _ _ _ _ _ _ _ _ _ _ (F0 m pc ls (.int (Int32.ofInt n) :: st.map (mj_c ρ)))
  refine W.anew F.1 F.2.1 F.2.2.2.1 (hts _ hw) (va_AO.use hover) rfl hd rfl (by rw [r32_lt0 hr]; omega) (by rw [hnn]; omega) (by have := S.2.1; omega) (by rw [hnn]; have := S.2.2.1; omega) fun cA kA comp f1 f2 f3 f4 => ?_
  rw [hnn]
  generalize hH1 : H.push ({ cls := cA, slots := Array.replicate n1 .null, vm := .none } : Cell) = H1
  have z1 : H1.size = H.size + 1 := by rw [← hH1, Array.size_push]
  have e1 : H1[H.size]? = some (arrV cA n1 (fun _ => .null)) := by rw [← hH1, Array.getElem?_push_size, ← arrV_new]
  have o1 : ∀ q : Nat, q < H.size → H1[q]? = H[q]? := fun q hq => by rw [← hH1, Array.getElem?_push, if_neg (Nat.ne_of_lt hq)]
  have hRA := hB.2
  rw [mj_tyR h3 h7] at hRA
  obtain ⟨kA2, comp2, k1, k2, k3, k4⟩ := hRA
  cases f1.symm.trans k4
  obtain ⟨S', e2, e3⟩ := S.new (st' := st) (x := .inr (t, n)) hs F.2.2.2.2.2.2.2.2.2.2.2.2.2.2.2.2.2.1 ⟨h7, by omega, by omega, by
    rw [e1, show n.toNat = n1 by omega]
    congr 2
    funext j
    rw [mj_avP h3, gP_sN, if_pos rfl]; rfl⟩ z1 o1 (fun h => (List.forall_mem_cons.mp h).2)
  have k9 := kk p e s m args below meth c9 H1 locs ls ρ0 _ _ _ F S'
  rw [List.map_cons, e2, e3] at k9
  exact k9
end MJD
end
section
/-! THE SMALL MACHINE, 5: contracts, bodies, returns, throws, calls -/
section MJE
def mj_Pc (G : mj_G) (ρ0 : mj_P) (as : List mj_V) (A : mj_M) : Array Value → State → Prop := fun av U => av = (as.map (mj_c ρ0)).toArray ∧ mj_H G ρ0 A U.heap ∧ mj_B G U ∧ ∀ v ∈ as, mj_ok ρ0 v
def mj_Qc (G : mj_G) (ρ0 : mj_P) (Post : Option mj_V → mj_M → Prop) : Array Value → State → Outcome → State → Prop := fun _ st oc t => ∃ (ρ : mj_P) (r : Option mj_V) (A' : mj_M), oc = .returned (r.map (mj_c ρ)) ∧ Post r A' ∧ mj_ext ρ0 ρ ∧ mj_H G ρ A' t.heap ∧ (∀ v, r = some v → mj_ok ρ v) ∧ va_F (fun q => G.2.1 ≤ q) st t
def mj_Xc (G : mj_G) (ρ0 : mj_P) (PX : String → mj_M → Prop) : String → State → State → Prop := fun E st t => ∃ (ρ : mj_P) (A' : mj_M), PX E A' ∧ mj_ext ρ0 ρ ∧ mj_H G ρ A' t.heap ∧ va_F (fun q => G.2.1 ≤ q) st t
def mj_cw (M : mj_I) : Cond := if mi_hh M = [] then .code (mi_y M) (mi_code M) (mi_ml M) (mi_ret M) else .codeWith (mi_y M) (mi_code M) (mi_ml M) (mi_ret M) (mi_hh M)
/-- from the memory A, with these arguments, the method returns with Post or throws with PX -/
def mj_Cal (G : mj_G) (M : mj_I) (as : List mj_V) (A : mj_M) (Post : Option mj_V → mj_M → Prop) (PX : String → mj_M → Prop) : Prop :=
  ∀ ρ0 : mj_P, vx_Met G.1 (mi_y M) (mj_cw M :: mj_TB) (mi_rm M) (mj_Pc G ρ0 as A) (mj_Qc G ρ0 Post) (mj_Xc G ρ0 PX) (mi_rm M).cells (mi_rm M).slots (fun q => G.2.1 ≤ q)
def mj_Qm (G : mj_G) (M : mj_I) (Post : Option mj_V → mj_M → Prop) (PX : String → mj_M → Prop) : mj_Q := fun ρ0 args s below => vx_MQ below (mj_Qc G ρ0 Post) (mj_Xc G ρ0 PX) args s (mi_rm M).cells (mi_rm M).slots (fun q => G.2.1 ≤ q)
theorem mj_blind {G : mj_G} {ρ0 : mj_P} {as : List mj_V} {A : mj_M} : FrameBlind (mj_Pc G ρ0 as A) := fun a U g mk h => ⟨h.1, h.2.1, h.2.2.1.same rfl rfl, h.2.2.2⟩
/-- the locals at the entry -/
theorem mj_entry {ρ : mj_P} {as : List mj_V} {n : Nat} (hn : as.length ≤ n) (hz : ∀ v ∈ as, mj_ok ρ v ∧ ∀ z, v ≠ mZ z) : mj_L ρ n (as.map some ++ List.replicate (n - as.length) none) (((as.map (mj_c ρ)).map Slot.val ++ List.replicate (n - (as.map (mj_c ρ)).length) Slot.unset).toArray) := by
  have hget : ∀ (i : Nat) (x : Slot), (((as.map (mj_c ρ)).map Slot.val ++ List.replicate (n - (as.map (mj_c ρ)).length) Slot.unset).toArray)[i]? = some x → x = .unset ∨ ∃ v, as[i]? = some v ∧ x = .val (mj_c ρ v) := by
    intro i x hx
    rw [List.getElem?_toArray, List.getElem?_append] at hx
    split at hx
    · simp only [List.getElem?_map, Option.map_eq_some_iff] at hx
      obtain ⟨w, ⟨v, h1, h2⟩, h3⟩ := hx
      exact Or.inr ⟨v, h1, by rw [← h3, ← h2]⟩
    · rw [List.getElem?_replicate] at hx
      split at hx
      · cases hx; exact Or.inl rfl
      · cases hx
  refine ⟨⟨?_, ⟨fun i v hv h2 => ?_, fun i hi => ?_⟩, fun q hq => ?_⟩, ?_, fun k v hk => ?_⟩
  · simp; omega
  · rcases hget i _ hv with h | ⟨w, h1, h⟩
    · cases h
    · cases h
      have := mj_cat (ρ := ρ) (hz w (List.mem_of_getElem? h1)).2
      omega
  · rcases hget i _ hi with h | ⟨w, h1, h⟩ <;> cases h
  · obtain ⟨k, u, h1, h2, h3⟩ := (mj_l_mem _ 0).mp (show (q.1, q.2) ∈ _ from hq)
    have hk0 : q.1 = k := by omega
    rw [hk0, h3]
    rw [List.getElem?_append] at h1
    split at h1
    · rename_i hlt
      simp only [List.getElem?_map, Option.map_eq_some_iff] at h1
      obtain ⟨w, h4, h5⟩ := h1
      cases h5
      rw [List.getElem?_toArray, List.getElem?_append_left (by simpa using hlt)]
      simp [h4]
    · rw [List.getElem?_replicate] at h1
      split at h1 <;> cases h1
  · simp; omega
  · rw [List.getElem?_append] at hk
    split at hk
    · simp only [List.getElem?_map, Option.map_eq_some_iff] at hk
      obtain ⟨w, h4, h5⟩ := hk
      cases h5
      exact hz _ (List.mem_of_getElem? h4)
    · rw [List.getElem?_replicate] at hk
      split at hk <;> cases hk
section BODY
variable {G : mj_G} {M : mj_I} {A : mj_M} {as : List mj_V} {Post : Option mj_V → mj_M → Prop} {PX : String → mj_M → Prop} {L0 : List (Option mj_V)}
theorem mj_body0 {ρ0 : mj_P} {p : Program} {e : Env} {s : State} {m : MethodId} {args : Array Value} {below : List Frame} {meth : Method} {c : Code} {s₁ : State} {w : Cond} (hn : as.length ≤ mi_ml M) (hz : ∀ v ∈ as, ∀ z, v ≠ mZ z) (hL : L0 = as.map some ++ List.replicate (mi_ml M - as.length) none)
    (k : mj_X G M (mj_Qm G M Post PX) A (mi_rm M).cells (mi_rm M).slots 0 L0 []) (B : BodyLoose p G.1 (mi_y M) (headSpec (w :: mj_TB) (mi_rm M)) (mi_code M) (mi_ml M) (mi_ret M) e s m args below meth c s₁) (hml : c.maxLocals = mi_ml M) (ht : c.exceptionTable.toList = tableOf (mi_hh M)) (hP : mj_Pc G ρ0 as A args s) :
    W p G.1 e (headSpec (w :: mj_TB) (mi_rm M)).room s m args below meth c s.heap [] 0 0 (vx_MQ below (mj_Qc G ρ0 Post) (mj_Xc G ρ0 PX) args s (mi_rm M).cells (mi_rm M).slots (fun q => G.2.1 ≤ q)) (entryFrame m args (mi_ml M)) := by
  obtain ⟨rfl, hH, hB, hok⟩ := hP
  have hts := atoms_spec (ws := w :: mj_TB) B.pre
  have hcat : ∀ v ∈ as.map (mj_c ρ0), v.category = 1 := by
    intro v hv
    obtain ⟨u, hu, rfl⟩ := List.mem_map.mp hv
    exact mj_cat (hz u hu)
  rw [entry_eq m (as.map (mj_c ρ0)) hcat]
  subst hL
  exact k p e s m _ below meth c s.heap [] _ ρ0 ρ0 0 0 ⟨B.exec, B.bytes, hml, findClass_of_methodNamed B.named, B.returns, B.notSynchronized, (name_of_methodNamed B.named B.method).1, ht, fun x hx => hts x (List.mem_cons_of_mem _ hx), hB⟩
    ⟨mj_ext.rf, Nat.le_of_eq (Nat.zero_add _), Nat.le_of_eq (Nat.zero_add _), hH, va_S.rf, mj_entry hn fun v hv => ⟨hok v hv, hz v hv⟩, fun v hv => by cases hv⟩
theorem mj_body (hh : mi_hh M = []) (hy : plainName (mi_own M) = true) (hn : as.length ≤ mi_ml M) (hz : ∀ v ∈ as, ∀ z, v ≠ mZ z) (hL : L0 = as.map some ++ List.replicate (mi_ml M - as.length) none)
    (k : mj_X G M (mj_Qm G M Post PX) A (mi_rm M).cells (mi_rm M).slots 0 L0 []) : mj_Cal G M as A Post PX := by
  intro ρ0
  refine vx_ofW (y := mi_y M) (cc := mi_code M) (maxL := mi_ml M) (ret := mi_ret M) (ws' := mj_TB) hy (by rw [mj_cw, if_pos hh]) ?_
  intro p e s m args below meth c s₁ B hml hexc hP
  refine mj_body0 hn hz hL k B hml ?_ hP
  rw [hh]
  show _ = []
  exact List.eq_nil_iff_forall_not_mem.mpr fun x hx => hexc x hx
theorem mj_bodyH (hh : mi_hh M ≠ []) (hy : plainName (mi_own M) = true) (hn : as.length ≤ mi_ml M) (hz : ∀ v ∈ as, ∀ z, v ≠ mZ z) (hL : L0 = as.map some ++ List.replicate (mi_ml M - as.length) none)
    (k : mj_X G M (mj_Qm G M Post PX) A (mi_rm M).cells (mi_rm M).slots 0 L0 []) : mj_Cal G M as A Post PX := by
  intro ρ0
  refine vx_ofWH (y := mi_y M) (cc := mi_code M) (maxL := mi_ml M) (ret := mi_ret M) (hh := mi_hh M) (ws' := mj_TB) hy (by rw [mj_cw, if_neg hh]) ?_
  intro p e s m args below meth c s₁ B hml hP
  refine mj_body0 hn hz hL k B hml ?_ hP
  have h := atoms_spec (ws := mj_cw M :: mj_TB) B.pre _ List.mem_cons_self
  rw [mj_cw, if_neg hh] at h
  exact vx_table (x := mi_y M) B h
end BODY
section ENDS
variable {G : mj_G} {M : mj_I} {A : mj_M} {kc ks pc : Nat} {L : List (Option mj_V)} {st : List mj_V} {Post : Option mj_V → mj_M → Prop} {PX : String → mj_M → Prop}
theorem mj_fin {ρ0 ρ : mj_P} {s t : State} {H : Heap} {locs : List Loc} {ls : Array Slot} {cells slots : Nat} {a : Array Value} (S : mj_St G M ρ0 ρ A kc ks L st s H locs ls cells slots) (ht : t.heap = H) {r : Option mj_V} (hq : Post r A) (hr : ∀ v, r = some v → v ∈ st) : mj_Qc G ρ0 Post a s (.returned (r.map (mj_c ρ))) t :=
  ⟨ρ, r, A, rfl, hq, S.1, by rw [ht]; exact S.2.2.2.1, fun v hv => S.2.2.2.2.2.2 v (hr v hv), S.2.2.2.2.1.F ht⟩
theorem mx_iret {x : Int} (hd : decode (mi_code M) pc = .ok (.ireturn, 1)) (hr : mi_ret M = some .int) (hq : Post (some (mI x)) A) : mj_X G M (mj_Qm G M Post PX) A kc ks pc L [mI x] := by
  intro p e s m args below meth c H locs ls ρ0 ρ cells slots F S
  exact W.widen (k := (mi_rm M).cells) (n := (mi_rm M).slots) (Nat.le_trans (Nat.le_add_right _ _) S.2.1) (Nat.le_trans (Nat.le_add_right _ _) S.2.2.1) (vx_ret (W.iret F.1 F.2.1 (F.2.2.2.2.1.trans hr) (fun t ht _ => mj_fin S ht (r := some (mI x)) hq (fun v hv => by cases hv; exact List.mem_cons_self)) S.2.2.2.2.1.2.2 hd F.2.2.2.2.2.1))
theorem mx_zret {x : Int} (hd : decode (mi_code M) pc = .ok (.ireturn, 1)) (hr : mi_ret M = some .boolean) (hx : x = 0 ∨ x = 1) (hq : Post (some (mI x)) A) : mj_X G M (mj_Qm G M Post PX) A kc ks pc L [mI x] := by
  intro p e s m args below meth c H locs ls ρ0 ρ cells slots F S
  exact W.widen (k := (mi_rm M).cells) (n := (mi_rm M).slots) (Nat.le_trans (Nat.le_add_right _ _) S.2.1) (Nat.le_trans (Nat.le_add_right _ _) S.2.2.1) (vx_ret (W.zret F.1 F.2.1 (F.2.2.2.2.1.trans hr) (mj_nB hx).1 (fun t ht _ => mj_fin S ht (r := some (mI x)) hq (fun v hv => by cases hv; exact List.mem_cons_self)) S.2.2.2.2.1.2.2 hd F.2.2.2.2.2.1))
theorem mx_vret (hd : decode (mi_code M) pc = .ok (.return_, 1)) (hr : mi_ret M = none) (hq : Post none A) : mj_X G M (mj_Qm G M Post PX) A kc ks pc L [] := by
  intro p e s m args below meth c H locs ls ρ0 ρ cells slots F S
  exact W.widen (k := (mi_rm M).cells) (n := (mi_rm M).slots) (Nat.le_trans (Nat.le_add_right _ _) S.2.1) (Nat.le_trans (Nat.le_add_right _ _) S.2.2.1) (vx_ret (W.vret F.1 F.2.1 (F.2.2.2.2.1.trans hr) (fun t ht _ => mj_fin S ht (r := none) hq (fun v hv => by cases hv)) S.2.2.2.2.1.2.2 hd F.2.2.2.2.2.1))
theorem mx_aret {r : Option Int} {C : String} (hd : decode (mi_code M) pc = .ok (.areturn, 1)) (hr : mi_ret M = some (.object C)) (hq : Post (some (mR r)) A) : mj_X G M (mj_Qm G M Post PX) A kc ks pc L [mR r] := by
  intro p e s m args below meth c H locs ls ρ0 ρ cells slots F S
  exact W.widen (k := (mi_rm M).cells) (n := (mi_rm M).slots) (Nat.le_trans (Nat.le_add_right _ _) S.2.1) (Nat.le_trans (Nat.le_add_right _ _) S.2.2.1) (vx_ret (W.aret F.1 F.2.1 (F.2.2.2.2.1.trans hr) (Or.inl ⟨C, rfl⟩) (by cases r <;> first | exact Or.inl rfl | exact Or.inr ⟨_, rfl⟩) (fun t ht _ => mj_fin S ht (r := some (mR r)) hq (fun v hv => by cases hv; exact List.mem_cons_self)) S.2.2.2.2.1.2.2 hd F.2.2.2.2.2.1))
theorem mj_H.grow {ρ : mj_P} {H H' : Heap} (h : mj_H G ρ A H) (hq : ∀ q, q < H.size → H'[q]? = H[q]?) : mj_H G ρ A H' := by
  refine ⟨fun c => ?_, h.2⟩
  have h1 := h.1 c
  unfold mj_at at h1 ⊢
  cases hs : gS A c with
  | none => rw [hs] at h1; exact h1
  | some x =>
    rw [hs] at h1
    obtain ⟨a, g1, g2, g3⟩ := h1
    exact ⟨a, g1, g2, g3.kept (hq a g3.lt) (fun _ => rfl) (fun _ => rfl)⟩
def mj_nm : List String := ["java/lang/RuntimeException", "java/lang/Exception"]
/-- a throw's words -/
def mj_Thr (own : String) (ik ic : Nat) (cls : String) : Prop := Bundle.fit cls = true ∧ (∀ n ∈ mj_nm, Bundle.fit n = true) ∧ Cond.classLink own ik cls ∈ mj_TB ∧ Cond.initialized cls ∈ mj_TB ∧ (vx_atS own ic cls mj_nm).all (fun w => lw_tbl.contains w && (goodWord w || (mj_xw w && w.onTables))) = true ∧ (Cond.classLink own ik cls :: Cond.initialized cls :: vx_atS own ic cls mj_nm).all vx_ot = true
theorem mj_hat {own cls : String} {ic : Nat} {s : State} {args : Array Value} (h : (vx_atS own ic cls mj_nm).all (fun w => lw_tbl.contains w && (goodWord w || (mj_xw w && w.onTables))) = true) (hts : ∀ w ∈ mj_TB, w.before args s = true) (hB : mj_B G s) : ∀ w ∈ vx_atS own ic cls mj_nm, w.before args s = true := by
  intro w hw
  have h1 := List.all_eq_true.mp h w hw
  simp only [Bool.and_eq_true, Bool.or_eq_true, List.contains_iff_mem] at h1
  obtain ⟨hm, hg | ⟨hx, ht⟩⟩ := h1
  · exact hts w (List.mem_filter.mpr ⟨hm, hg⟩)
  · exact va_Nw.use ht (hB.2.2.2.2.2.1 w hm hx)
theorem mx_throw {ik is ic : Nat} {cls text : String} (hT : mj_Thr (mi_own M) ik ic cls) (hstr : (mi_own M, is, text) ∈ mj_str) (hh : mi_hh M = []) (hf : 6 ≤ (mi_rm M).frames) (hl : ((st.map (mj_c fun _ => none)).map fun v => v.category).sum + 82 ≤ (mi_rm M).locals) (d0 : decode (mi_code M) pc = .ok (.new ik, 3)) (d3 : decode (mi_code M) (pc + 3) = .ok (.dup, 1)) (d4 : decode (mi_code M) (pc + 4) = .ok (.ldc is, 2)) (d6 : decode (mi_code M) (pc + 6) = .ok (.invokespecial ic, 3)) (d9 : decode (mi_code M) (pc + 9) = .ok (.athrow, 1)) (hq : PX cls A) : mj_X G M (mj_Qm G M Post PX) A (kc + 1) (ks + 6) pc L st := by
  intro p e s m args below meth c H locs ls ρ0 ρ cells slots F S
  obtain ⟨t1, t2, t3, t4, t5, t6⟩ := hT
  have hts := F.2.2.2.2.2.2.2.2.1
  have hB := F.2.2.2.2.2.2.2.2.2
  obtain ⟨sa, hsa⟩ := hB.2.2.2.2.1 _ hstr
  have hcs : ((st.map (mj_c ρ)).map fun v => v.category) = ((st.map (mj_c fun _ => none)).map fun v => v.category) := by
    simp only [List.map_map]
    refine List.map_congr_left fun v _ => ?_
    rcases v with x | r | x
    · rfl
    · cases r <;> rfl
    · rfl
  refine vx_throwS F.1 F.2.1 hB.2.2.2.2.2.2.2.2.2 F.2.2.2.1 t1 t2 (hts _ t3) (hts _ t4) hsa (mj_hat t5 hts hB) (fun w hw => List.all_eq_true.mp t6 w hw) hB.2.2.1 hB.2.2.2.1 S.2.2.2.2.1 (S.2.2.2.2.2.1.1.1.trans F.2.2.1.symm) d0 d3 d4 d6 d9 (fun x hx => ?_) (show 2 + 3 < (mi_rm M).frames by omega) (by rw [hcs]; show _ + (13 * (2 + 1) + 43) ≤ _; omega) (by have := S.2.1; omega) (by have := S.2.2.1; omega) F.2.2.2.2.2.1 (fun t hal hsz hk => ⟨ρ, A, hq, S.1, S.2.2.2.1.grow hk, ?_, fun q h1 h2 => ?_⟩) S.2.2.2.2.1.2.2 (by have := S.2.1; omega) (by have := S.2.2.1; omega)
  · rw [F.2.2.2.2.2.2.2.1, hh] at hx; cases hx
  · exact Nat.le_trans S.2.2.2.2.1.1 hsz
  · rw [hk q (Nat.lt_of_lt_of_le h1 S.2.2.2.2.1.1)]; exact S.2.2.2.2.1.2.1 q h1 h2
theorem mx_throwW {ik is ic : Nat} {cls text : String} (hT : mj_Thr (mi_own M) ik ic cls) (hstr : (mi_own M, is, text) ∈ mj_str) (hh : mi_hh M = []) (hf : 6 ≤ (mi_rm M).frames) (hl : ((st.map (mj_c fun _ => none)).map fun v => v.category).sum + 82 ≤ (mi_rm M).locals) (d0 : decode (mi_code M) pc = .ok (.new ik, 3)) (d3 : decode (mi_code M) (pc + 3) = .ok (.dup, 1)) (d4 : decode (mi_code M) (pc + 4) = .ok (.ldc_w is, 3)) (d7 : decode (mi_code M) (pc + 7) = .ok (.invokespecial ic, 3)) (d10 : decode (mi_code M) (pc + 10) = .ok (.athrow, 1)) (hq : PX cls A) : mj_X G M (mj_Qm G M Post PX) A (kc + 1) (ks + 6) pc L st := by
  intro p e s m args below meth c H locs ls ρ0 ρ cells slots F S
  obtain ⟨t1, t2, t3, t4, t5, t6⟩ := hT
  have hts := F.2.2.2.2.2.2.2.2.1
  have hB := F.2.2.2.2.2.2.2.2.2
  obtain ⟨sa, hsa⟩ := hB.2.2.2.2.1 _ hstr
  have hcs : ((st.map (mj_c ρ)).map fun v => v.category) = ((st.map (mj_c fun _ => none)).map fun v => v.category) := by
    simp only [List.map_map]
    refine List.map_congr_left fun v _ => ?_
    rcases v with x | r | x
    · rfl
    · cases r <;> rfl
    · rfl
  refine vx_throwSW F.1 F.2.1 hB.2.2.2.2.2.2.2.2.2 F.2.2.2.1 t1 t2 (hts _ t3) (hts _ t4) hsa (mj_hat t5 hts hB) (fun w hw => List.all_eq_true.mp t6 w hw) hB.2.2.1 hB.2.2.2.1 S.2.2.2.2.1 (S.2.2.2.2.2.1.1.1.trans F.2.2.1.symm) d0 d3 d4 d7 d10 (fun x hx => ?_) (show 2 + 3 < (mi_rm M).frames by omega) (by rw [hcs]; show _ + (13 * (2 + 1) + 43) ≤ _; omega) (by have := S.2.1; omega) (by have := S.2.2.1; omega) F.2.2.2.2.2.1 (fun t hal hsz hk => ⟨ρ, A, hq, S.1, S.2.2.2.1.grow hk, ?_, fun q h1 h2 => ?_⟩) S.2.2.2.2.1.2.2 (by have := S.2.1; omega) (by have := S.2.2.1; omega)
  · rw [F.2.2.2.2.2.2.2.1, hh] at hx; cases hx
  · exact Nat.le_trans S.2.2.2.2.1.1 hsz
  · rw [hk q (Nat.lt_of_lt_of_le h1 S.2.2.2.2.1.1)]; exact S.2.2.2.2.1.2.1 q h1 h2
end ENDS
/-- an exception of class E over the frame -/
def mj_T (G : mj_G) (M : mj_I) (Q : mj_Q) (A : mj_M) (kc ks pc : Nat) (L : List (Option mj_V)) (E : String) : Prop :=
  ∀ (p : Program) (e : Env) (s : State) (m : MethodId) (args : Array Value) (below : List Frame) (meth : Method) (c : Code) (H : Heap) (locs : List Loc) (ls : Array Slot) (ρ0 ρ : mj_P) (cells slots : Nat) (q : Addr) (ce : Cell) (rest : List Value),
    mj_Fr G M p s m args meth c → mj_St G M ρ0 ρ A kc ks L [] s H locs ls cells slots → H[q]? = some ce → ce.vm = .none → s.vm.findClass E = some ce.cls →
    vx_W p G.1 e (mi_rm M) s m args below meth c H locs cells slots (Q ρ0 args s below) (F0 m pc ls rest) q
section THR
variable {G : mj_G} {M : mj_I} {Q : mj_Q} {A : mj_M} {kc ks pc : Nat} {L : List (Option mj_V)} {Post : Option mj_V → mj_M → Prop} {PX : String → mj_M → Prop} {E : String}
theorem mt_out (hh : mi_hh M = []) (hq : PX E A) : mj_T G M (mj_Qm G M Post PX) A kc ks pc L E := by
  intro p e s m args below meth c H locs ls ρ0 ρ cells slots q ce rest F S hce hv hcl
  refine vx_widen (k := (mi_rm M).cells) (n := (mi_rm M).slots) (Nat.le_trans (Nat.le_add_right _ _) S.2.1) (Nat.le_trans (Nat.le_add_right _ _) S.2.2.1) (vx_out (E := E) (ce := ce) (fun x hx => ?_) F.2.2.2.2.2.1 hce hv hcl (fun t ht _ => ⟨ρ, A, hq, S.1, by rw [ht]; exact S.2.2.2.1, S.2.2.2.2.1.F ht⟩) S.2.2.2.2.1.2.2 (Nat.le_refl _) (Nat.le_refl _))
  rw [F.2.2.2.2.2.2.2.1, hh] at hx; cases hx
/-- caught by the row x: the handler stores the exception away -/
theorem mt_catch {name : String} (pre : List (Nat × Nat × Nat × Nat)) (x : Nat × Nat × Nat × Nat) (suf : List (Nat × Nat × Nat × Nat)) (hsplit : mi_hh M = pre ++ x :: suf) (hpass : ∀ z ∈ pre, z.2.2.2 ≠ 0 ∧ ∃ nm : String, Cond.classLink (mi_own M) z.2.2.2 nm ∈ mj_TB ∧ (E, nm) ∈ mj_nc) (hx : covers ⟨x.1, x.2.1, x.2.2.1, x.2.2.2⟩ pc = true) (h0 : x.2.2.2 ≠ 0) (hlink : Cond.classLink (mi_own M) x.2.2.2 name ∈ mj_TB) (hcast : Cond.castable E name ∈ lw_tbl)
    {i : Nat} (hd : (∃ k0 : Fin 4, (k0 : Nat) = i ∧ decode (mi_code M) x.2.2.1 = .ok (.astore_n k0, 1) ∧ mj_X G M Q A kc ks (x.2.2.1 + 1) (L.set i none) []) ∨ (decode (mi_code M) x.2.2.1 = .ok (.astore i, 2) ∧ mj_X G M Q A kc ks (x.2.2.1 + 2) (L.set i none) [])) (hi : i < mi_ml M) : mj_T G M Q A kc ks pc L E := by
  intro p e s m args below meth c H locs ls ρ0 ρ cells slots q ce rest F S hce hv hcl
  have hts := F.2.2.2.2.2.2.2.2.1
  have hB := F.2.2.2.2.2.2.2.2.2
  refine vx_catch (name := name) F.2.2.2.1 (tableOf pre) ⟨x.1, x.2.1, x.2.2.1, x.2.2.2⟩ (tableOf suf) (by rw [F.2.2.2.2.2.2.2.1, hsplit]; simp [tableOf]) (fun z hz => ?_) hx h0 (hts _ hlink) (va_Nw.use rfl (hB.2.2.2.2.2.1 _ hcast rfl)) hce hv hcl ?_
  · obtain ⟨y, hy, rfl⟩ := List.mem_map.mp hz
    obtain ⟨h1, nm, h2, h3⟩ := hpass y hy
    exact Or.inr ⟨h1, nm, hts _ h2, hB.2.2.2.2.2.2.1 _ h3⟩
  · have drop : ∀ ls' : Array Slot, lv_has ls' (mi_ml M) ((i, Value.ref q) :: (mj_l ρ 0 L).filter (fun q => !(q.1 == i) && !(q.1 + 1 == i && q.2.category == 2))) → mj_St G M ρ0 ρ A kc ks (L.set i none) [] s H locs ls' cells slots := by
      intro ls' h'
      have key : ∀ (k : Nat) (u : mj_V), (L.set i none)[k]? = some (some u) → k ≠ i ∧ L[k]? = some (some u) := by
        intro k u hk
        rw [List.getElem?_set] at hk
        by_cases e : i = k
        · rw [if_pos e] at hk
          split at hk <;> cases hk
        · rw [if_neg e] at hk
          exact ⟨fun z => e z.symm, hk⟩
      refine S.to2 ⟨⟨h'.1, h'.2.1, fun q9 hq9 => ?_⟩, by rw [List.length_set]; exact S.2.2.2.2.2.1.2.1, fun k u hk => S.2.2.2.2.2.1.2.2 k u (key k u hk).2⟩ id
      obtain ⟨k, u, h1, h2, h3⟩ := (mj_l_mem _ 0).mp (show (q9.1, q9.2) ∈ _ from hq9)
      have hk0 : q9.1 = k := by omega
      obtain ⟨e1, e2⟩ := key k u h1
      rw [hk0, h3]
      refine h'.2.2 (k, mj_c ρ u) (List.mem_cons_of_mem _ (List.mem_filter.mpr ⟨(mj_l_mem L 0).mpr ⟨k, u, e2, by omega, rfl⟩, ?_⟩))
      have hc := mj_cat (ρ := ρ) (S.2.2.2.2.2.1.2.2 k u e2).2
      simp [e1, hc]
    rcases hd with ⟨k0, hk0, hd, kk⟩ | ⟨hd, kk⟩
    · exact lv_astore_n F.1 F.2.1 hd hk0 S.2.2.2.2.2.1.1 hi rfl fun ls' h' => kk p e s m args below meth c H locs ls' ρ0 ρ cells slots F (drop ls' h')
    · exact lv_astore F.1 F.2.1 hd S.2.2.2.2.2.1.1 hi rfl fun ls' h' => kk p e s m args below meth c H locs ls' ρ0 ρ cells slots F (drop ls' h')
end THR
end MJE
end
section
/-! THE SMALL MACHINE, 6: calls -/
section MJF
variable {G : mj_G} {M N : mj_I} {Q : mj_Q} {A : mj_M} {kc ks pc : Nat} {L : List (Option mj_V)} {st as : List mj_V} {Post : Option mj_V → mj_M → Prop} {PX : String → mj_M → Prop}
theorem mj_goodTB {w : Cond} (h : w ∈ mj_TB) : w ∈ mj_TB ∧ ((w.onTables && w.keeps) = true ∨ ∃ ty, w = .arrayClass ty) := ⟨h, good_of_word (List.mem_filter.mp h).2⟩
theorem mj_GoodIn {ws : List Cond} (h : ∀ w ∈ ws, w ∈ mj_TB) : GoodIn mj_TB ws := fun w hw => mj_goodTB (h w hw)
/-- behind a call that may throw -/
theorem mj_after {p : Program} {e : Env} {s : State} {m : MethodId} {args : Array Value} {below : List Frame} {meth : Method} {c : Code} {H : Heap} {locs : List Loc} {ls : Array Slot} {ρ0 ρ : mj_P} {cells slots mc ms : Nat} {st0 : List Value} {a : Array Value} (F : mj_Fr G M p s m args meth c) (S : mj_St G M ρ0 ρ A (kc + mc) (ks + ms) L st s H locs ls cells slots)
    (hr : vx_Run p G.1 e (mi_rm M) s m args below meth c H locs cells slots mc ms (F0 m pc ls st0) (st.map (mj_c ρ)) (mj_Qc G ρ Post a) (mj_Xc G ρ PX) (fun q => G.2.1 ≤ q))
    (kr : ∀ r A', Post r A' → mj_X G M Q A' kc ks (pc + 3) L (r.toList ++ st)) (kx : ∀ E A', PX E A' → mj_T G M Q A' kc ks pc L E) : W p G.1 e (mi_rm M) s m args below meth c H locs cells slots (Q ρ0 args s below) (F0 m pc ls st0) := by
  intro T hT X
  rcases hr T hT X with ⟨v, st₀, t, T', L9, h0, X', hL, e1, e2, ⟨ρ', r, A', hv, hq, hext, hH, hok, hF⟩, sts⟩ | ⟨q, st₀, t, T', L9, E, ce, h0, X', hL, e1, e2, ⟨ρ', A', hq, hext, hH, hF⟩, hce, hcv, hcl, sts⟩
  · cases hv
    obtain ⟨-, -, k3⟩ := vx_keep h0 e1 S.2.2.2.2.1 (fun q _ h => h) (fun q h => h) hL hF
    have hst := S.2.2.2.2.2.2
    have k9 := kr r A' hq p e s m args below meth c T'.heap (locs ++ L9) ls ρ0 ρ' (cells + mc) (slots + ms) F ⟨S.1.tr hext, by have := S.2.1; omega, by have := S.2.2.1; omega, by rw [e1]; exact hH, k3, S.2.2.2.2.2.1.ext hext, fun v hv => by
      rcases List.mem_append.mp hv with h | h
      · exact hok v (by simpa using h)
      · exact (hst v h).ext hext⟩
    rw [List.map_append, mj_map_ext hst hext] at k9
    obtain ⟨t2, a1, b1⟩ := k9 T' rfl X'
    refine ⟨t2, sts t2 ?_, b1⟩
    have e9 : (r.map (mj_c ρ')).toList = r.toList.map (mj_c ρ') := by cases r <;> rfl
    show Steps p.tables e below (T'.setTop { F0 m pc ls st0 with pc := pc + 3, stack := (r.map (mj_c ρ')).toList ++ st.map (mj_c ρ) }) t2
    rw [e9]; exact a1
  · obtain ⟨-, -, k3⟩ := vx_keep h0 e1 S.2.2.2.2.1 (fun q _ h => h) (fun q h => h) hL hF
    obtain ⟨t2, a1, b1⟩ := kx E A' hq p e s m args below meth c T'.heap (locs ++ L9) ls ρ0 ρ' (cells + mc) (slots + ms) q ce (st.map (mj_c ρ)) F ⟨S.1.tr hext, by have := S.2.1; omega, by have := S.2.2.1; omega, by rw [e1]; exact hH, k3, S.2.2.2.2.2.1.ext hext, fun v hv => (by cases hv)⟩ (by rw [e1]; exact hce) hcv hcl T' rfl X'
    exact ⟨t2, sts.trans a1, b1⟩
theorem mj_afterN {p : Program} {e : Env} {s : State} {m : MethodId} {args : Array Value} {below : List Frame} {meth : Method} {c : Code} {H : Heap} {locs : List Loc} {ls : Array Slot} {ρ0 ρ : mj_P} {cells slots mc ms : Nat} {st0 : List Value} {a : Array Value} (F : mj_Fr G M p s m args meth c) (S : mj_St G M ρ0 ρ A (kc + mc) (ks + ms) L st s H locs ls cells slots)
    (hr : va_Run p G.1 e (mi_rm M) s m args below meth c H locs cells slots mc ms (F0 m pc ls st0) (st.map (mj_c ρ)) (mj_Qc G ρ Post a) (fun q => G.2.1 ≤ q))
    (kr : ∀ r A', Post r A' → mj_X G M Q A' kc ks (pc + 3) L (r.toList ++ st)) : W p G.1 e (mi_rm M) s m args below meth c H locs cells slots (Q ρ0 args s below) (F0 m pc ls st0) :=
  mj_after (PX := fun _ _ => False) F S (fun T hT X => by
    obtain ⟨v, st₀, t, T', L9, h0, X', hL, e1, e2, hq, sts⟩ := hr T hT X
    exact Or.inl ⟨v, st₀, t, T', L9, h0, X', hL, e1, e2, hq, sts⟩) kr (fun E A' h => h.elim)
/-- a method that never throws -/
theorem mj_met (h : mj_Cal G N as A Post (fun _ _ => False)) (ρ0 : mj_P) : Met G.1 (mi_y N) (mj_cw N :: mj_TB) (mi_rm N) (mj_Pc G ρ0 as A) (mj_Qc G ρ0 Post) (mi_rm N).cells (mi_rm N).slots (fun q => G.2.1 ≤ q) := by
  intro p e h1 h2 h3 s m args below h4 h5 h6 h7
  obtain ⟨n, o, g1, g2, g3, g4⟩ := h ρ0 p e h1 h2 h3 s m args below h4 h5 h6 h7
  refine ⟨n, o, g1, g2, g3, ?_⟩
  rcases g4 with g4 | ⟨q, -, E, ce, L, ⟨ρ, A', hF, -⟩, -⟩
  · exact g4
  · exact hF.elim
def mj_yok (N : mj_I) (n : Nat) : Prop := (mi_y N).cls ≠ "java/lang/invoke/MethodHandle" ∧ (mi_y N).cls ≠ "java/lang/invoke/VarHandle" ∧ (parseMethodDescriptor (mi_desc N)).map (fun d => d.parameters.length) = some n
/-- a virtual call's words -/
def mj_SV (own : String) (idx : Nat) (N : mj_I) (n : Nat) : Prop := mi_hh N = [] ∧ Cond.methodLink own idx (mi_y N) ∈ mj_TB ∧ Cond.instanceMethod (mi_y N) ∈ mj_TB ∧ Cond.selects (mi_own N) (mi_y N) (mi_y N) ∈ mj_TB ∧ Cond.initialized (mi_own N) ∈ mj_TB ∧ mj_cw N ∈ mj_TB ∧ mj_yok N n
def mj_SS (own : String) (idx : Nat) (N : mj_I) (n : Nat) : Prop := mi_hh N = [] ∧ Cond.methodLink own idx (mi_y N) ∈ mj_TB ∧ Cond.static (mi_y N) ∈ mj_TB ∧ Cond.initialized (mi_own N) ∈ mj_TB ∧ mj_cw N ∈ mj_TB ∧ mj_yok N n
def mj_SH (own : String) (idx : Nat) (N : mj_I) (n : Nat) : Prop := mi_hh N ≠ [] ∧ Cond.methodLink own idx (mi_y N) ∈ mj_TB ∧ Cond.static (mi_y N) ∈ mj_TB ∧ Cond.initialized (mi_own N) ∈ mj_TB ∧ mj_cw N ∈ mj_TB ∧ mj_yok N n
def mj_SNs (own : String) (idx : Nat) (N : mj_I) (n : Nat) : Prop := mi_hh N = [] ∧ (∃ host, Cond.methodLinkNest own idx (mi_y N) host ∈ lw_tbl) ∧ Cond.static (mi_y N) ∈ mj_TB ∧ Cond.initialized (mi_own N) ∈ mj_TB ∧ mj_cw N ∈ mj_TB ∧ mj_yok N n
def mj_SI (own : String) (idx : Nat) (N : mj_I) (n : Nat) : Prop := mi_hh N = [] ∧ mi_ret N = none ∧ mi_name N = "<init>" ∧ Cond.methodLink own idx (mi_y N) ∈ mj_TB ∧ Cond.instanceMethod (mi_y N) ∈ mj_TB ∧ Cond.initialized (mi_own N) ∈ mj_TB ∧ mj_cw N ∈ mj_TB ∧ mj_yok N n
def mj_SNi (own : String) (idx : Nat) (N : mj_I) (n : Nat) : Prop := mi_hh N = [] ∧ mi_ret N = none ∧ mi_name N = "<init>" ∧ (∃ host, Cond.methodLinkNest own idx (mi_y N) host ∈ lw_tbl) ∧ Cond.instanceMethod (mi_y N) ∈ mj_TB ∧ Cond.initialized (mi_own N) ∈ mj_TB ∧ mj_cw N ∈ mj_TB ∧ mj_yok N n
/-- the callee's room fits the caller's -/
def mj_Rm (M N : mj_I) : Prop := (mi_rm N).frames + 1 ≤ (mi_rm M).frames ∧ 8 + (mi_ml N + 11) + (mi_rm N).locals ≤ (mi_rm M).locals
def mj_wt (st : List mj_V) : Nat := ((st.map (mj_c fun _ => none)).map fun v => v.category).sum
theorem mj_wt_eq (ρ : mj_P) (st : List mj_V) : ((st.map (mj_c ρ)).map fun v => v.category).sum = mj_wt st := by
  unfold mj_wt
  simp only [List.map_map]
  congr 1
  refine List.map_congr_left fun v _ => ?_
  rcases v with x | r | x
  · rfl
  · cases r <;> rfl
  · rfl
theorem mj_mrev {ρ : mj_P} {v : mj_V} : (as.reverse ++ v :: st).map (mj_c ρ) = (as.map (mj_c ρ)).reverse ++ mj_c ρ v :: st.map (mj_c ρ) := by simp
theorem mj_mrev0 {ρ : mj_P} : (as.reverse ++ st).map (mj_c ρ) = (as.map (mj_c ρ)).reverse ++ st.map (mj_c ρ) := by simp
theorem mj_cells {M : mj_I} {mc : Nat} {cells kc x : Nat} (h : cells + (kc + mc) ≤ x) : cells + mc ≤ x := by omega
/-- the callee's start -/
theorem mj_pre {p : Program} {s : State} {m : MethodId} {args : Array Value} {meth : Method} {c : Code} {H : Heap} {locs : List Loc} {ls : Array Slot} {ρ0 ρ : mj_P} {cells slots k9 n9 : Nat} {st9 : List mj_V} (F : mj_Fr G M p s m args meth c) (S : mj_St G M ρ0 ρ A k9 n9 L st9 s H locs ls cells slots) (has : ∀ v ∈ as, v ∈ st9) : ∀ U : State, U.heap = H → s.WarmedH U.vm → mj_Pc G ρ as A (as.map (mj_c ρ)).toArray U :=
  fun U hU hW => ⟨rfl, by rw [hU]; exact S.2.2.2.1, F.2.2.2.2.2.2.2.2.2.moved hW hU S.2.2.2.2.1, fun v hv => S.2.2.2.2.2.2 v (has v hv)⟩
theorem mx_callV {idx n ci : Nat} {c0 : Int} (hd : decode (mi_code M) pc = .ok (.invokevirtual idx, 3)) (hS : mj_SV (mi_own M) idx N n) (hR : mj_Rm M N) (hn : as.length = n) (hw : mj_wt st ≤ 8) (hs : gS A c0 = some (.inl ci)) (hci : ∃ r : vw_C, mj_cl[ci]? = some r ∧ r.1 = mi_own N)
    (hc : mj_Cal G N (mR (some c0) :: as) A Post PX) (kr : ∀ r A', Post r A' → mj_X G M Q A' kc ks (pc + 3) L (r.toList ++ st)) (kx : ∀ E A', PX E A' → mj_T G M Q A' kc ks pc L E) : mj_X G M Q A (kc + (mi_rm N).cells) (ks + (mi_rm N).slots) pc L (as.reverse ++ mR (some c0) :: st) := by
  intro p e s m args below meth c H locs ls ρ0 ρ cells slots F S
  obtain ⟨hh, w1, w2, w3, w4, w5, hy⟩ := hS
  have hts := F.2.2.2.2.2.2.2.2.1
  obtain ⟨a, ha, hz, r, hr1, cell, q1, q2, q3, -⟩ := S.2.2.2.1.sh hs
  obtain ⟨r', hr2, hrn⟩ := hci
  cases hr1.symm.trans hr2
  have hcl := (F.2.2.2.2.2.2.2.2.2.1.1 ci r hr1).2.1
  have S0 := S.to1 (st' := st) fun h v hv => h v (List.mem_append_right _ (List.mem_cons_of_mem _ hv))
  have hmem : ∀ v ∈ (mR (some c0) :: as), v ∈ as.reverse ++ mR (some c0) :: st := fun v hv => by
    rcases List.mem_cons.mp hv with h | h
    · rw [h]; exact List.mem_append_right _ List.mem_cons_self
    · exact List.mem_append_left _ (List.mem_reverse.mpr h)
  have cw : CallW (mi_rm M) s args (mi_own M) (mi_own N) idx (mi_y N) (mi_code N) (mi_ml N) (mi_ret N) (mj_cw N :: mj_TB) (mi_rm N) (mi_rm N).cells (mi_rm N).slots n :=
    cwV (ws' := mj_TB) n hts (mj_GoodIn fun w hw => by
      rcases List.mem_append.mp hw with h | h
      · simp only [List.mem_cons, List.not_mem_nil, or_false] at h
        rcases h with rfl | rfl | rfl | rfl
        · exact w1
        · exact w2
        · exact w3
        · exact w4
      · rcases List.mem_cons.mp h with rfl | h
        · exact w5
        · exact h) (by rw [mj_cw, if_pos hh]) rfl rfl ⟨rfl, hy⟩ hR
  rw [mj_mrev]
  have e1 : mj_c ρ (mR (some c0)) = .ref a := mj_cR ha
  have hpre := mj_pre (as := mR (some c0) :: as) F S hmem
  rw [List.map_cons, e1] at hpre
  rw [e1]
  exact mj_after F S0 (vx_runV (As := as.map (mj_c ρ)) (rest := st.map (mj_c ρ)) ⟨F.1, F.2.1, F.2.2.1, F.2.2.2.1, hts⟩ (hc ρ) cw ⟨mj_blind, ⟨cell, q1, by rw [q3]; rfl, by rw [q2, ← hrn]; exact hcl⟩, hpre⟩ rfl (by rw [List.length_map]; exact hn) S.2.2.2.2.2.1.1.1 rfl (by show 2 * 0 + _ ≤ 8; rw [mj_wt_eq]; omega) hd ⟨mj_cells (M := M) S.2.1, mj_cells (M := M) S.2.2.1⟩) kr kx
theorem mj_cbS {s : State} {args : Array Value} {idx n : Nat} (hts : ∀ w ∈ mj_TB, w.before args s = true) (hR : mj_Rm M N) (hh : mi_hh N = []) (w1 : Cond.methodLink (mi_own M) idx (mi_y N) ∈ mj_TB) (w4 : Cond.initialized (mi_own N) ∈ mj_TB) (w5 : mj_cw N ∈ mj_TB) (hy : mj_yok N n) : CallB (mi_rm M) s args (mi_own M) idx (mi_y N) (mi_code N) (mi_ml N) (mi_ret N) (mj_cw N :: mj_TB) (mi_rm N) (mi_rm N).cells (mi_rm N).slots n :=
  callB_of (ws' := mj_TB) n hts (mj_GoodIn fun w h => by
    rcases List.mem_cons.mp h with rfl | h
    · exact w5
    · exact h) (by rw [mj_cw, if_pos hh]) rfl rfl (hts _ w4) (hts _ w1) hy hR
theorem mx_callS {idx n : Nat} (hd : decode (mi_code M) pc = .ok (.invokestatic idx, 3)) (hS : mj_SS (mi_own M) idx N n) (hR : mj_Rm M N) (hn : as.length = n) (hw : mj_wt st ≤ 8)
    (hc : mj_Cal G N as A Post PX) (kr : ∀ r A', Post r A' → mj_X G M Q A' kc ks (pc + 3) L (r.toList ++ st)) (kx : ∀ E A', PX E A' → mj_T G M Q A' kc ks pc L E) : mj_X G M Q A (kc + (mi_rm N).cells) (ks + (mi_rm N).slots) pc L (as.reverse ++ st) := by
  intro p e s m args below meth c H locs ls ρ0 ρ cells slots F S
  obtain ⟨hh, w1, w2, w4, w5, hy⟩ := hS
  have hts := F.2.2.2.2.2.2.2.2.1
  have S0 := S.to1 (st' := st) fun h v hv => h v (List.mem_append_right _ hv)
  have hpre := mj_pre (as := as) F S (fun v hv => List.mem_append_left _ (List.mem_reverse.mpr hv))
  rw [mj_mrev0]
  exact mj_after F S0 (vx_runS (As := as.map (mj_c ρ)) (rest := st.map (mj_c ρ)) ⟨F.1, F.2.1, F.2.2.1, F.2.2.2.1, hts⟩ (hc ρ) ⟨mj_cbS hts hR hh w1 w4 w5 hy, hts _ w2⟩ ⟨mj_blind, hpre⟩ rfl (by rw [List.length_map]; exact hn) S.2.2.2.2.2.1.1.1 rfl (by show 2 * 0 + _ ≤ 8; rw [mj_wt_eq]; omega) hd ⟨mj_cells (M := M) S.2.1, mj_cells (M := M) S.2.2.1⟩) kr kx
/-- a static method with handlers -/
theorem mx_callSH {idx n : Nat} (hd : decode (mi_code M) pc = .ok (.invokestatic idx, 3)) (hS : mj_SH (mi_own M) idx N n) (hR : mj_Rm M N) (hn : as.length = n) (hw : mj_wt st ≤ 8)
    (hc : mj_Cal G N as A Post PX) (kr : ∀ r A', Post r A' → mj_X G M Q A' kc ks (pc + 3) L (r.toList ++ st)) (kx : ∀ E A', PX E A' → mj_T G M Q A' kc ks pc L E) : mj_X G M Q A (kc + (mi_rm N).cells) (ks + (mi_rm N).slots) pc L (as.reverse ++ st) := by
  intro p e s m args below meth c H locs ls ρ0 ρ cells slots F S
  obtain ⟨hh, w1, w2, w4, w5, hy⟩ := hS
  have hts := F.2.2.2.2.2.2.2.2.1
  have S0 := S.to1 (st' := st) fun h v hv => h v (List.mem_append_right _ hv)
  have hpre := mj_pre (as := as) F S (fun v hv => List.mem_append_left _ (List.mem_reverse.mpr hv))
  have cw : vx_CSW (mi_rm M) s args (mi_own M) idx (mi_y N) (mi_code N) (mi_ml N) (mi_ret N) (mi_hh N) (mj_cw N :: mj_TB) (mi_rm N) (mi_rm N).cells (mi_rm N).slots n :=
    vx_cwSW (ws' := mj_TB) n hts (mj_GoodIn fun w hw => by
      rcases List.mem_append.mp hw with h | h
      · simp only [List.mem_cons, List.not_mem_nil, or_false] at h
        rcases h with rfl | rfl | rfl
        · exact w1
        · exact w2
        · exact w4
      · rcases List.mem_cons.mp h with rfl | h
        · exact w5
        · exact h) (by rw [mj_cw, if_neg hh]) rfl rfl hy hR
  rw [mj_mrev0]
  exact mj_after F S0 (vx_runSX (As := as.map (mj_c ρ)) (rest := st.map (mj_c ρ)) ⟨F.1, F.2.1, F.2.2.1, F.2.2.2.1, hts⟩ (hc ρ) cw ⟨mj_blind, hpre⟩ rfl (by rw [List.length_map]; exact hn) S.2.2.2.2.2.1.1.1 rfl (by show 2 * 0 + _ ≤ 8; rw [mj_wt_eq]; omega) hd ⟨mj_cells (M := M) S.2.1, mj_cells (M := M) S.2.2.1⟩) kr kx
theorem mj_nestB {s : State} {args : Array Value} {idx n : Nat} {host : String} {H : Heap} (hts : ∀ w ∈ mj_TB, w.before args s = true) (hB : mj_B G s) (hR : mj_Rm M N) (hh : mi_hh N = []) (w1 : Cond.methodLinkNest (mi_own M) idx (mi_y N) host ∈ lw_tbl) (w4 : Cond.initialized (mi_own N) ∈ mj_TB) (w5 : mj_cw N ∈ mj_TB) (hy : mj_yok N n) : va_CN (mi_rm M) s args (mi_own M) idx (mi_y N) host (mi_code N) (mi_ml N) (mi_ret N) (mj_cw N :: mj_TB) (mi_rm N) (mi_rm N).cells (mi_rm N).slots n :=
  va_cnB (ws' := mj_TB) n hts (mj_GoodIn fun w h => by
    rcases List.mem_cons.mp h with rfl | h
    · exact w5
    · exact h) (by rw [mj_cw, if_pos hh]) rfl rfl (hB.2.2.2.2.2.1 _ w1 rfl) (hts _ w4) hy hR
/-- a private static method of the nest's host -/
theorem mx_callSN {idx n : Nat} (hd : decode (mi_code M) pc = .ok (.invokestatic idx, 3)) (hS : mj_SNs (mi_own M) idx N n) (hR : mj_Rm M N) (hn : as.length = n) (hw : mj_wt st ≤ 8)
    (hc : mj_Cal G N as A Post (fun _ _ => False)) (kr : ∀ r A', Post r A' → mj_X G M Q A' kc ks (pc + 3) L (r.toList ++ st)) : mj_X G M Q A (kc + (mi_rm N).cells) (ks + (mi_rm N).slots) pc L (as.reverse ++ st) := by
  intro p e s m args below meth c H locs ls ρ0 ρ cells slots F S
  obtain ⟨hh, ⟨host, w1⟩, w2, w4, w5, hy⟩ := hS
  have hts := F.2.2.2.2.2.2.2.2.1
  have S0 := S.to1 (st' := st) fun h v hv => h v (List.mem_append_right _ hv)
  have hpre := mj_pre (as := as) F S (fun v hv => List.mem_append_left _ (List.mem_reverse.mpr hv))
  rw [mj_mrev0]
  exact mj_afterN F S0 (va_runSN (As := as.map (mj_c ρ)) (rest := st.map (mj_c ρ)) ⟨F.1, F.2.1, F.2.2.1, F.2.2.2.1, hts⟩ (mj_met hc ρ) ⟨mj_nestB (H := H) hts F.2.2.2.2.2.2.2.2.2 hR hh w1 w4 w5 hy, hts _ w2, trivial⟩ ⟨mj_blind, hpre⟩ rfl (by rw [List.length_map]; exact hn) S.2.2.2.2.2.1.1.1 rfl (by show 2 * 0 + _ ≤ 8; rw [mj_wt_eq]; omega) hd ⟨mj_cells (M := M) S.2.1, mj_cells (M := M) S.2.2.1⟩) kr
/-- a constructor -/
theorem mx_callI {idx n : Nat} {c0 : Int} (hd : decode (mi_code M) pc = .ok (.invokespecial idx, 3)) (hS : mj_SI (mi_own M) idx N n) (hR : mj_Rm M N) (hn : as.length = n) (hw : mj_wt st ≤ 8)
    (hc : mj_Cal G N (mR (some c0) :: as) A Post (fun _ _ => False)) (kr : ∀ r A', Post r A' → mj_X G M Q A' kc ks (pc + 3) L (r.toList ++ st)) : mj_X G M Q A (kc + (mi_rm N).cells) (ks + (mi_rm N).slots) pc L (as.reverse ++ mR (some c0) :: st) := by
  intro p e s m args below meth c H locs ls ρ0 ρ cells slots F S
  obtain ⟨hh, hret, hnm, w1, w2, w4, w5, hy⟩ := hS
  have hts := F.2.2.2.2.2.2.2.2.1
  have S0 := S.to1 (st' := st) fun h v hv => h v (List.mem_append_right _ (List.mem_cons_of_mem _ hv))
  have hmem : ∀ v ∈ (mR (some c0) :: as), v ∈ as.reverse ++ mR (some c0) :: st := fun v hv => by
    rcases List.mem_cons.mp hv with h | h
    · rw [h]; exact List.mem_append_right _ List.mem_cons_self
    · exact List.mem_append_left _ (List.mem_reverse.mpr h)
  have hpre := mj_pre (as := mR (some c0) :: as) F S hmem
  have cb := mj_cbS hts hR hh w1 w4 w5 hy
  rw [hret] at cb
  rw [mj_mrev]
  exact mj_afterN F S0 (va_runI (b := (ρ c0).getD 0) (As := as.map (mj_c ρ)) (rest := st.map (mj_c ρ)) ⟨F.1, F.2.1, F.2.2.1, F.2.2.2.1, hts⟩ (mj_met hc ρ) ⟨cb, hnm, hts _ w2⟩ ⟨mj_blind, hpre⟩ rfl (by rw [List.length_map]; exact hn) S.2.2.2.2.2.1.1.1 rfl (by show 2 * 0 + _ ≤ 8; rw [mj_wt_eq]; omega) hd ⟨mj_cells (M := M) S.2.1, mj_cells (M := M) S.2.2.1⟩) kr
theorem mx_callIN {idx n : Nat} {c0 : Int} (hd : decode (mi_code M) pc = .ok (.invokespecial idx, 3)) (hS : mj_SNi (mi_own M) idx N n) (hR : mj_Rm M N) (hn : as.length = n) (hw : mj_wt st ≤ 8)
    (hc : mj_Cal G N (mR (some c0) :: as) A Post (fun _ _ => False)) (kr : ∀ r A', Post r A' → mj_X G M Q A' kc ks (pc + 3) L (r.toList ++ st)) : mj_X G M Q A (kc + (mi_rm N).cells) (ks + (mi_rm N).slots) pc L (as.reverse ++ mR (some c0) :: st) := by
  intro p e s m args below meth c H locs ls ρ0 ρ cells slots F S
  obtain ⟨hh, hret, hnm, ⟨host, w1⟩, w2, w4, w5, hy⟩ := hS
  have hts := F.2.2.2.2.2.2.2.2.1
  have S0 := S.to1 (st' := st) fun h v hv => h v (List.mem_append_right _ (List.mem_cons_of_mem _ hv))
  have hmem : ∀ v ∈ (mR (some c0) :: as), v ∈ as.reverse ++ mR (some c0) :: st := fun v hv => by
    rcases List.mem_cons.mp hv with h | h
    · rw [h]; exact List.mem_append_right _ List.mem_cons_self
    · exact List.mem_append_left _ (List.mem_reverse.mpr h)
  have hpre := mj_pre (as := mR (some c0) :: as) F S hmem
  have cb := mj_nestB (H := H) hts F.2.2.2.2.2.2.2.2.2 hR hh w1 w4 w5 hy
  rw [hret] at cb
  rw [mj_mrev]
  exact mj_afterN F S0 (va_runIN (b := (ρ c0).getD 0) (As := as.map (mj_c ρ)) (rest := st.map (mj_c ρ)) ⟨F.1, F.2.1, F.2.2.1, F.2.2.2.1, hts⟩ (mj_met hc ρ) ⟨cb, hnm, hts _ w2⟩ ⟨mj_blind, hpre⟩ rfl (by rw [List.length_map]; exact hn) S.2.2.2.2.2.1.1.1 rfl (by show 2 * 0 + _ ≤ 8; rw [mj_wt_eq]; omega) hd ⟨mj_cells (M := M) S.2.1, mj_cells (M := M) S.2.2.1⟩) kr
/-- java/lang/Object's constructor -/
theorem mx_objInit {idx : Nat} {c0 : Int} (hd : decode (mi_code M) pc = .ok (.invokespecial idx, 3)) (w1 : Cond.methodLink (mi_own M) idx Lib.objectInit ∈ mj_TB) (w2 : Cond.instanceMethod Lib.objectInit ∈ mj_TB) (w3 : Cond.code Lib.objectInit ⟨#[0xb1]⟩ 1 none ∈ mj_TB) (hf : 1 ≤ (mi_rm M).frames) (hl : mj_wt st + 12 ≤ (mi_rm M).locals) (hs : gS A c0 ≠ none) (kk : mj_X G M Q A kc ks (pc + 3) L st) : mj_X G M Q A kc ks pc L (mR (some c0) :: st) := by
  intro p e s m args below meth c H locs ls ρ0 ρ cells slots F S
  have hts := F.2.2.2.2.2.2.2.2.1
  exact W.objInit F.1 F.2.1 F.2.2.2.1 (hts _ w1) (hts _ w2) (hts _ w3) rfl (S.2.2.2.2.2.1.1.1.trans F.2.2.1.symm) rfl hd hf (by show 2 * 0 + _ + 12 ≤ _; rw [mj_wt_eq]; omega) (kk p e s m args below meth c H locs ls ρ0 ρ cells slots F (S.to1 fun h => (List.forall_mem_cons.mp h).2))
theorem mj_mm {x y : Int} (hx : r32 x) (hy : r32 y) : (if Int32.ofInt x < Int32.ofInt y then Int32.ofInt y else Int32.ofInt x) = Int32.ofInt (if x < y then y else x) := by
  by_cases h : x < y
  · rw [if_pos h, if_pos ((r32_lt hx hy).mpr h)]
  · rw [if_neg h, if_neg fun z => h ((r32_lt hx hy).mp z)]
end MJF
end
section
/-! THE SMALL MACHINE, 7: Math, System.arraycopy, loops -/
section MJL
variable {G : mj_G} {M : mj_I} {Q : mj_Q} {A : mj_M} {kc ks pc : Nat} {L : List (Option mj_V)} {st : List mj_V}
def mj_Mt (own : String) (idx : Nat) (y : MethodName) (code : ByteArray) (k : Nat) : Prop := Cond.methodLink own idx y ∈ mj_TB ∧ Cond.static y ∈ mj_TB ∧ Cond.initialized "java/lang/Math" ∈ mj_TB ∧ Cond.code y code k (some .int) ∈ mj_TB
theorem mx_max {idx : Nat} {x y : Int} (hd : decode (mi_code M) pc = .ok (.invokestatic idx, 3)) (hM : mj_Mt (mi_own M) idx Lib.Math.max.name Lib.Math.max.code 2) (hf : 1 ≤ (mi_rm M).frames) (hl : mj_wt st + 13 ≤ (mi_rm M).locals) (hx : r32 x) (hy : r32 y) (kk : mj_X G M Q A kc ks (pc + 3) L (mI (if x < y then y else x) :: st)) : mj_X G M Q A kc ks pc L (mI y :: mI x :: st) := by
  intro p e s m args below meth c H locs ls ρ0 ρ cells slots F S
  have hts := F.2.2.2.2.2.2.2.2.1
  refine va_mmax F.1 F.2.1 (F.2.2.1.trans S.2.2.2.2.2.1.1.1.symm) F.2.2.2.1 (hts _ hM.1) (hts _ hM.2.1) (hts _ hM.2.2.1) (hts _ hM.2.2.2) hf (by rw [mj_wt_eq]; exact hl) (by have := S.2.1; omega) (by have := S.2.2.1; omega) hd ?_
  rw [mj_mm hx hy]
  exact kk p e s m args below meth c H locs ls ρ0 ρ cells slots F (S.to1 fun h => List.forall_mem_cons.mpr ⟨mj_okI _, (List.forall_mem_cons.mp (List.forall_mem_cons.mp h).2).2⟩)
theorem mx_min {idx : Nat} {x y : Int} (hd : decode (mi_code M) pc = .ok (.invokestatic idx, 3)) (hM : mj_Mt (mi_own M) idx Lib.Math.min.name Lib.Math.min.code 2) (hf : 1 ≤ (mi_rm M).frames) (hl : mj_wt st + 13 ≤ (mi_rm M).locals) (hx : r32 x) (hy : r32 y) (kk : mj_X G M Q A kc ks (pc + 3) L (mI (if y < x then y else x) :: st)) : mj_X G M Q A kc ks pc L (mI y :: mI x :: st) := by
  intro p e s m args below meth c H locs ls ρ0 ρ cells slots F S
  have hts := F.2.2.2.2.2.2.2.2.1
  refine va_mmin F.1 F.2.1 (F.2.2.1.trans S.2.2.2.2.2.1.1.1.symm) F.2.2.2.1 (hts _ hM.1) (hts _ hM.2.1) (hts _ hM.2.2.1) (hts _ hM.2.2.2) hf (by rw [mj_wt_eq]; exact hl) (by have := S.2.1; omega) (by have := S.2.2.1; omega) hd ?_
  have e9 : (if Int32.ofInt y < Int32.ofInt x then Int32.ofInt y else Int32.ofInt x) = Int32.ofInt (if y < x then y else x) := by
    by_cases h : y < x
    · rw [if_pos h, if_pos ((r32_lt hy hx).mpr h)]
    · rw [if_neg h, if_neg fun z => h ((r32_lt hy hx).mp z)]
  rw [e9]
  exact kk p e s m args below meth c H locs ls ρ0 ρ cells slots F (S.to1 fun h => List.forall_mem_cons.mpr ⟨mj_okI _, (List.forall_mem_cons.mp (List.forall_mem_cons.mp h).2).2⟩)
theorem mx_abs {idx : Nat} {x : Int} (hd : decode (mi_code M) pc = .ok (.invokestatic idx, 3)) (hM : mj_Mt (mi_own M) idx Lib.Math.abs.name Lib.Math.abs.code 1) (hf : 1 ≤ (mi_rm M).frames) (hl : mj_wt st + 13 ≤ (mi_rm M).locals) (hx : r32 x) (kk : mj_X G M Q A kc ks (pc + 3) L (mI (if 0 ≤ x then x else 0 - x) :: st)) : mj_X G M Q A kc ks pc L (mI x :: st) := by
  intro p e s m args below meth c H locs ls ρ0 ρ cells slots F S
  have hts := F.2.2.2.2.2.2.2.2.1
  refine va_mabs F.1 F.2.1 (F.2.2.1.trans S.2.2.2.2.2.1.1.1.symm) F.2.2.2.1 (hts _ hM.1) (hts _ hM.2.1) (hts _ hM.2.2.1) (hts _ hM.2.2.2) hf (by rw [mj_wt_eq]; omega) (by have := S.2.1; omega) (by have := S.2.2.1; omega) hd ?_
  have e9 : (if (0 : Int32) ≤ Int32.ofInt x then Int32.ofInt x else 0 - Int32.ofInt x) = Int32.ofInt (if 0 ≤ x then x else 0 - x) := by
    by_cases h : 0 ≤ x
    · rw [if_pos h, if_pos (show (0 : Int32) ≤ Int32.ofInt x from (r32_le r32_0 hx).mpr h)]
    · rw [if_neg h, if_neg (show ¬ (0 : Int32) ≤ Int32.ofInt x from fun z => h ((r32_le r32_0 hx).mp z)), Int32.ofInt_sub]; rfl
  rw [e9]
  exact kk p e s m args below meth c H locs ls ρ0 ρ cells slots F (S.to1 fun h => List.forall_mem_cons.mpr ⟨mj_okI _, (List.forall_mem_cons.mp h).2⟩)
/-- System.arraycopy between two int arrays -/
theorem mx_copy {idx : Nat} {c0 c1 n0 n1 sp dp n : Int} (hd : decode (mi_code M) pc = .ok (.invokestatic idx, 3)) (w1 : Cond.methodLink (mi_own M) idx arraycopyName ∈ mj_TB) (w2 : Cond.native arraycopyName ∈ mj_TB) (w3 : Cond.static arraycopyName ∈ mj_TB) (w4 : Cond.initialized "java/lang/System" ∈ mj_TB) (hs0 : gS A c0 = some (.inr (0, n0))) (hs1 : gS A c1 = some (.inr (0, n1)))
    (h1 : 0 ≤ sp) (h2 : 0 ≤ dp) (h3 : 0 ≤ n) (h4 : sp + n ≤ n0) (h5 : dp + n ≤ n1) (hf : 1 ≤ (mi_rm M).frames) (hl : mj_wt st + 18 ≤ (mi_rm M).locals)
    (kk : mj_X G M Q (sF A c1 fun i => if dp ≤ i ∧ i < dp + n then gI A c0 (sp + (i - dp)) else gI A c1 i) kc ks (pc + 3) L st) : mj_X G M Q A kc ks pc L (mI n :: mI dp :: mR (some c1) :: mI sp :: mR (some c0) :: st) := by
  intro p e s m args below meth c H locs ls ρ0 ρ cells slots F S
  obtain ⟨a0, ha0, hz0, -, q0, q1, hc0⟩ := S.2.2.2.1.sh hs0
  obtain ⟨a1, ha1, hz1, ht1, q2, q3, hc1⟩ := S.2.2.2.1.sh hs1
  have hts := F.2.2.2.2.2.2.2.2.1
  have hK := (F.2.2.2.2.2.2.2.2.2.2.1 0 (by omega)).1
  have av : ∀ (c : Int), mj_av ρ A c 0 = fun j => .int (Int32.ofInt (gI A c (j : Int))) := fun c => by funext j; exact mj_avI (by omega)
  rw [av] at hc0 hc1
  show W _ _ _ _ _ _ _ _ _ _ _ _ _ _ _ (F0 m pc ls (.int (Int32.ofInt n) :: .int (Int32.ofInt dp) :: mj_c ρ (mR (some c1)) :: .int (Int32.ofInt sp) :: mj_c ρ (mR (some c0)) :: st.map (mj_c ρ)))
  rw [mj_cR ha0, mj_cR ha1]
  have rsp : r32 sp := ⟨by omega, by omega⟩
  have rdp : r32 dp := ⟨by omega, by omega⟩
  have rn : r32 n := ⟨by omega, by omega⟩
  intro T hT X
  obtain ⟨-, k0, hk0, cm0, hkk0⟩ := hK n0.toNat (fun j => .int (Int32.ofInt (gI A c0 (j : Int))))
  obtain ⟨-, k1, hk1, cm1, hkk1⟩ := hK n1.toNat (fun j => .int (Int32.ofInt (gI A c1 (j : Int))))
  obtain ⟨vm', X', step⟩ := X.arraycopy F.1 F.2.2.2.1 (hts _ w1) (hts _ w2) (hts _ w3) (hts _ w4) (src := a0) (dst := a1) (srcPos := Int32.ofInt sp) (destPos := Int32.ofInt dp) (n := Int32.ofInt n) (by rw [hT]; exact hc0) (by rw [hT]; exact hc1)
    (fun _ h => by cases h) (fun _ h => by cases h) (fun h => by cases h) (fun h => by cases h) hk0 hk1 hkk0 hkk1 (by decide) (by rw [r32_lt0 rsp]; omega) (by rw [r32_lt0 rdp]; omega) (by rw [r32_lt0 rn]; omega)
    (by rw [r32_toInt rsp, r32_toInt rn, arrV_size]; omega) (by rw [r32_toInt rdp, r32_toInt rn, arrV_size]; omega)
    (fun vm₁ _ i hi => by
      rw [r32_nat rn] at hi
      rw [r32_nat rsp, Array.getD_eq_getD_getElem?, arrV_read _ _ (by omega)]
      exact ⟨rfl, trivial⟩)
    (g := F0 m pc ls (.int (Int32.ofInt n) :: .int (Int32.ofInt dp) :: .ref a1 :: .int (Int32.ofInt sp) :: .ref a0 :: st.map (mj_c ρ))) rfl (by rw [F.2.2.1]; exact S.2.2.2.2.2.1.1.1) (rest := st.map (mj_c ρ)) rfl (by rw [F.2.1]; exact hd) hf (by show 2 * 0 + _ + (7 + 11) ≤ _; rw [mj_wt_eq]; omega)
  have e1 := va_copied (fun z : Int32 => .int z) (G.2.2.2 0) (G.2.2.2 0) (n0 := n0.toNat) (n1 := n1.toNat) (sp := sp.toNat) (dp := dp.toNat) (n := n.toNat) (fun j => Int32.ofInt (gI A c0 (j : Int))) (fun j => Int32.ofInt (gI A c1 (j : Int))) (by omega)
  have e2 : copied (arrV (G.2.2.2 0) n0.toNat (fun j => .int (Int32.ofInt (gI A c0 (j : Int))))) (arrV (G.2.2.2 0) n1.toNat (fun j => .int (Int32.ofInt (gI A c1 (j : Int))))) (Int32.ofInt sp) (Int32.ofInt dp) (Int32.ofInt n) = arrV (G.2.2.2 0) n1.toNat (fun j => .int (va_cpy (fun j : Nat => Int32.ofInt (gI A c0 (j : Int))) (fun j : Nat => Int32.ofInt (gI A c1 (j : Int))) sp.toNat dp.toNat n.toNat j)) := by
    rw [← e1]
    unfold copied
    rw [r32_nat rsp, r32_nat rdp, r32_nat rn]
  rw [e2] at X' step
  have hlt : a1 < T.heap.size := (Array.getElem?_eq_some_iff.mp (by rw [hT]; exact hc1)).1
  generalize hZ : arrV (G.2.2.2 0) n1.toNat (fun j => .int (va_cpy (fun j : Nat => Int32.ofInt (gI A c0 (j : Int))) (fun j : Nat => Int32.ofInt (gI A c1 (j : Int))) sp.toNat dp.toNat n.toNat j)) = Z at X' step
  have y1 : ((T.setVm vm').setCell a1 Z).heap[a1]? = some Z := heapAt_setCell_self _ hlt
  have y2 : ((T.setVm vm').setCell a1 Z).heap.size = H.size := by rw [size_setCell]; rw [← hT]; rfl
  have y3 : ∀ q, q ≠ a1 → ((T.setVm vm').setCell a1 Z).heap[q]? = H[q]? := fun q hq => by rw [heapAt_setCell_ne _ (Ne.symm hq), ← hT]; rfl
  have hS1 : ∀ LL : List Loc, (∀ q ∈ LL, q.base = a1) → va_S (fun q => G.2.1 ≤ q) s.heap ((T.setVm vm').setCell a1 Z).heap (locs ++ LL) := by
    intro LL hLL
    refine ⟨by rw [y2]; exact S.2.2.2.2.1.1, fun q g1 g2 => ?_, fun q hq => ?_⟩
    · rw [y3 q (fun e => g2 (by rw [e]; exact hz1))]
      exact S.2.2.2.2.1.2.1 q g1 g2
    · rcases List.mem_append.mp hq with h | h
      · exact S.2.2.2.2.1.2.2 q h
      · show G.2.1 ≤ q.base
        rw [hLL q h]; exact hz1
  obtain ⟨t, g1, g2⟩ := kk p e s m args below meth c _ _ ls ρ0 ρ cells slots F ⟨S.1, S.2.1, S.2.2.1, S.2.2.2.1.put hs1 ha1 ⟨ht1, q2, q3, by
      rw [y1, ← hZ]
      congr 2
      funext j
      rw [mj_avI (by omega), gI_sF, if_pos rfl]
      unfold va_cpy
      by_cases hj : dp ≤ (j : Int) ∧ (j : Int) < dp + n
      · rw [if_pos hj, if_pos (by omega)]
        have e9 : ((sp.toNat + (j - dp.toNat) : Nat) : Int) = sp + ((j : Int) - dp) := by omega
        show Value.int (Int32.ofInt (gI A c0 ((sp.toNat + (j - dp.toNat) : Nat) : Int))) = _
        rw [e9]
      · rw [if_neg hj, if_neg (by omega)]⟩ y3 (fun _ => rfl) (fun c i hc => by rw [gI_sF, if_neg hc]) (fun _ _ _ => rfl) (fun i q hq => S.2.2.2.1.2.2.1 c1 i q (by rw [hs1]; exact fun z => by cases z) hq) (fun i => by
        rw [gI_sF, if_pos rfl]
        split
        · exact S.2.2.2.1.2.2.2 _ _
        · exact S.2.2.2.1.2.2.2 _ _), hS1 _ (fun q hq => by obtain ⟨z, -, hz⟩ := List.mem_map.mp hq; rw [← hz]), S.2.2.2.2.2.1, fun v hv => S.2.2.2.2.2.2 v (by simp [hv])⟩ _ rfl X'
  exact ⟨t, step t g1, g2⟩
/-- a loop: at its head, with the invariant, by a measure that falls -/
theorem mj_loop {α : Type} (Inv : α → Prop) (μ : α → Nat) (P : α → Prop) (h : ∀ a, Inv a → (∀ b, Inv b → μ b < μ a → P b) → P a) : ∀ a, Inv a → P a := by
  have key : ∀ n a, μ a < n → Inv a → P a := by
    intro n
    induction n with
    | zero => intro a h1; omega
    | succ n ih => intro a h1 h2; exact h a h2 fun b h3 h4 => ih b (by omega) h3
  intro a ha
  exact key (μ a + 1) a (by omega) ha
end MJL
end
